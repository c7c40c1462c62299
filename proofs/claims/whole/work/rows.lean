section
-- ===== PART A: goes FIRST, ahead of the names: the tables' words, and 'selects' of the private methods out of them =====
/-- a private method of a class that the tables say can be made, by its rows of tables_1 -/
def lw_okq (q : MethodName × Nat) : Prop := (q.1.cls ≠ "java/lang/invoke/MethodHandle" ∧ q.1.cls ≠ "java/lang/invoke/VarHandle") ∧ Cond.instantiable q.1.cls q.2 ∈ tables_1 ∧ Cond.privateMethod q.1 ∈ tables_1 ∧ Cond.instanceMethod q.1 ∈ tables_1
theorem lw_p0 : lw_okq (⟨"SieveLoft", "sameHeaps", "()Z"⟩, 7) := ⟨⟨by decide +kernel, by decide +kernel⟩, List.mem_of_getElem? (i := 11) (by decide +kernel), List.mem_of_getElem? (i := 417) (by decide +kernel), List.mem_of_getElem? (i := 418) (by decide +kernel)⟩
theorem lw_p1 : lw_okq (⟨"SieveLoft", "seekBest", "(I)V"⟩, 7) := ⟨⟨by decide +kernel, by decide +kernel⟩, List.mem_of_getElem? (i := 11) (by decide +kernel), List.mem_of_getElem? (i := 425) (by decide +kernel), List.mem_of_getElem? (i := 426) (by decide +kernel)⟩
theorem lw_p2 : lw_okq (⟨"SieveLoft", "sheetAt", "(I)LSieveLoft$Sheet;"⟩, 7) := ⟨⟨by decide +kernel, by decide +kernel⟩, List.mem_of_getElem? (i := 11) (by decide +kernel), List.mem_of_getElem? (i := 493) (by decide +kernel), List.mem_of_getElem? (i := 494) (by decide +kernel)⟩
theorem lw_p3 : lw_okq (⟨"SieveLoftModel", "addGrain", "(III)V"⟩, 32) := ⟨⟨by decide +kernel, by decide +kernel⟩, List.mem_of_getElem? (i := 551) (by decide +kernel), List.mem_of_getElem? (i := 664) (by decide +kernel), List.mem_of_getElem? (i := 665) (by decide +kernel)⟩
theorem lw_p4 : lw_okq (⟨"SieveLoftModel", "isGrain", "(I)Z"⟩, 32) := ⟨⟨by decide +kernel, by decide +kernel⟩, List.mem_of_getElem? (i := 551) (by decide +kernel), List.mem_of_getElem? (i := 672) (by decide +kernel), List.mem_of_getElem? (i := 673) (by decide +kernel)⟩
theorem lw_p5 : lw_okq (⟨"SieveLoftModel", "addSieve", "(IIII)V"⟩, 32) := ⟨⟨by decide +kernel, by decide +kernel⟩, List.mem_of_getElem? (i := 551) (by decide +kernel), List.mem_of_getElem? (i := 683) (by decide +kernel), List.mem_of_getElem? (i := 684) (by decide +kernel)⟩
theorem lw_p6 : lw_okq (⟨"SieveLoftModel", "isSieve", "(I)Z"⟩, 32) := ⟨⟨by decide +kernel, by decide +kernel⟩, List.mem_of_getElem? (i := 551) (by decide +kernel), List.mem_of_getElem? (i := 691) (by decide +kernel), List.mem_of_getElem? (i := 692) (by decide +kernel)⟩
theorem lw_p7 : lw_okq (⟨"SieveLoftModel", "readAll", "(IZ)Z"⟩, 32) := ⟨⟨by decide +kernel, by decide +kernel⟩, List.mem_of_getElem? (i := 551) (by decide +kernel), List.mem_of_getElem? (i := 715) (by decide +kernel), List.mem_of_getElem? (i := 716) (by decide +kernel)⟩
theorem lw_p8 : lw_okq (⟨"SieveLoftModel", "readSieve", "(I)Z"⟩, 32) := ⟨⟨by decide +kernel, by decide +kernel⟩, List.mem_of_getElem? (i := 551) (by decide +kernel), List.mem_of_getElem? (i := 719) (by decide +kernel), List.mem_of_getElem? (i := 720) (by decide +kernel)⟩
theorem lw_p9 : lw_okq (⟨"SieveLoftModel", "nextByte", "()I"⟩, 32) := ⟨⟨by decide +kernel, by decide +kernel⟩, List.mem_of_getElem? (i := 551) (by decide +kernel), List.mem_of_getElem? (i := 723) (by decide +kernel), List.mem_of_getElem? (i := 724) (by decide +kernel)⟩
theorem lw_p10 : lw_okq (⟨"SieveLoftModel", "readNumber", "(II)I"⟩, 32) := ⟨⟨by decide +kernel, by decide +kernel⟩, List.mem_of_getElem? (i := 551) (by decide +kernel), List.mem_of_getElem? (i := 727) (by decide +kernel), List.mem_of_getElem? (i := 728) (by decide +kernel)⟩
theorem lw_p11 : lw_okq (⟨"SieveLoftModel", "takes", "(I)Z"⟩, 32) := ⟨⟨by decide +kernel, by decide +kernel⟩, List.mem_of_getElem? (i := 551) (by decide +kernel), List.mem_of_getElem? (i := 734) (by decide +kernel), List.mem_of_getElem? (i := 735) (by decide +kernel)⟩
theorem lw_p12 : lw_okq (⟨"SieveLoftModel", "readGrain", "(I)Z"⟩, 32) := ⟨⟨by decide +kernel, by decide +kernel⟩, List.mem_of_getElem? (i := 551) (by decide +kernel), List.mem_of_getElem? (i := 739) (by decide +kernel), List.mem_of_getElem? (i := 740) (by decide +kernel)⟩
theorem lw_p13 : lw_okq (⟨"SieveLoftModel", "end", "(Z)I"⟩, 32) := ⟨⟨by decide +kernel, by decide +kernel⟩, List.mem_of_getElem? (i := 551) (by decide +kernel), List.mem_of_getElem? (i := 743) (by decide +kernel), List.mem_of_getElem? (i := 744) (by decide +kernel)⟩
theorem lw_p14 : lw_okq (⟨"SieveLoftModel", "readRow", "()Z"⟩, 32) := ⟨⟨by decide +kernel, by decide +kernel⟩, List.mem_of_getElem? (i := 551) (by decide +kernel), List.mem_of_getElem? (i := 755) (by decide +kernel), List.mem_of_getElem? (i := 756) (by decide +kernel)⟩
theorem lw_p15 : lw_okq (⟨"SieveLoftModel", "tryNow", "()V"⟩, 32) := ⟨⟨by decide +kernel, by decide +kernel⟩, List.mem_of_getElem? (i := 551) (by decide +kernel), List.mem_of_getElem? (i := 766) (by decide +kernel), List.mem_of_getElem? (i := 767) (by decide +kernel)⟩
def lw_privs_1 : List (MethodName × Nat) := [(⟨"SieveLoft", "sameHeaps", "()Z"⟩, 7), (⟨"SieveLoft", "seekBest", "(I)V"⟩, 7), (⟨"SieveLoft", "sheetAt", "(I)LSieveLoft$Sheet;"⟩, 7), (⟨"SieveLoftModel", "addGrain", "(III)V"⟩, 32), (⟨"SieveLoftModel", "isGrain", "(I)Z"⟩, 32), (⟨"SieveLoftModel", "addSieve", "(IIII)V"⟩, 32), (⟨"SieveLoftModel", "isSieve", "(I)Z"⟩, 32), (⟨"SieveLoftModel", "readAll", "(IZ)Z"⟩, 32), (⟨"SieveLoftModel", "readSieve", "(I)Z"⟩, 32), (⟨"SieveLoftModel", "nextByte", "()I"⟩, 32), (⟨"SieveLoftModel", "readNumber", "(II)I"⟩, 32), (⟨"SieveLoftModel", "takes", "(I)Z"⟩, 32), (⟨"SieveLoftModel", "readGrain", "(I)Z"⟩, 32), (⟨"SieveLoftModel", "end", "(Z)I"⟩, 32), (⟨"SieveLoftModel", "readRow", "()Z"⟩, 32), (⟨"SieveLoftModel", "tryNow", "()V"⟩, 32)]
theorem lw_r1 : ∀ q ∈ lw_privs_1, lw_okq q := List.forall_mem_cons.mpr ⟨lw_p0, List.forall_mem_cons.mpr ⟨lw_p1, List.forall_mem_cons.mpr ⟨lw_p2, List.forall_mem_cons.mpr ⟨lw_p3, List.forall_mem_cons.mpr ⟨lw_p4, List.forall_mem_cons.mpr ⟨lw_p5, List.forall_mem_cons.mpr ⟨lw_p6, List.forall_mem_cons.mpr ⟨lw_p7, List.forall_mem_cons.mpr ⟨lw_p8, List.forall_mem_cons.mpr ⟨lw_p9, List.forall_mem_cons.mpr ⟨lw_p10, List.forall_mem_cons.mpr ⟨lw_p11, List.forall_mem_cons.mpr ⟨lw_p12, List.forall_mem_cons.mpr ⟨lw_p13, List.forall_mem_cons.mpr ⟨lw_p14, List.forall_mem_cons.mpr ⟨lw_p15, fun _ h => absurd h List.not_mem_nil⟩⟩⟩⟩⟩⟩⟩⟩⟩⟩⟩⟩⟩⟩⟩⟩
theorem lw_p16 : lw_okq (⟨"SieveLoftModel", "begin", "()V"⟩, 32) := ⟨⟨by decide +kernel, by decide +kernel⟩, List.mem_of_getElem? (i := 551) (by decide +kernel), List.mem_of_getElem? (i := 770) (by decide +kernel), List.mem_of_getElem? (i := 771) (by decide +kernel)⟩
theorem lw_p17 : lw_okq (⟨"SieveLoftModel", "takeRow", "()V"⟩, 32) := ⟨⟨by decide +kernel, by decide +kernel⟩, List.mem_of_getElem? (i := 551) (by decide +kernel), List.mem_of_getElem? (i := 774) (by decide +kernel), List.mem_of_getElem? (i := 775) (by decide +kernel)⟩
theorem lw_p18 : lw_okq (⟨"SieveLoftModel", "shakeOnce", "()V"⟩, 32) := ⟨⟨by decide +kernel, by decide +kernel⟩, List.mem_of_getElem? (i := 551) (by decide +kernel), List.mem_of_getElem? (i := 778) (by decide +kernel), List.mem_of_getElem? (i := 779) (by decide +kernel)⟩
theorem lw_p19 : lw_okq (⟨"SieveLoftModel", "passes", "(II)Z"⟩, 32) := ⟨⟨by decide +kernel, by decide +kernel⟩, List.mem_of_getElem? (i := 551) (by decide +kernel), List.mem_of_getElem? (i := 782) (by decide +kernel), List.mem_of_getElem? (i := 783) (by decide +kernel)⟩
theorem lw_p20 : lw_okq (⟨"SieveLoftModel", "grainsIn", "(I)I"⟩, 32) := ⟨⟨by decide +kernel, by decide +kernel⟩, List.mem_of_getElem? (i := 551) (by decide +kernel), List.mem_of_getElem? (i := 786) (by decide +kernel), List.mem_of_getElem? (i := 787) (by decide +kernel)⟩
theorem lw_p21 : lw_okq (⟨"SieveLoftModel", "amountIn", "(I)I"⟩, 32) := ⟨⟨by decide +kernel, by decide +kernel⟩, List.mem_of_getElem? (i := 551) (by decide +kernel), List.mem_of_getElem? (i := 790) (by decide +kernel), List.mem_of_getElem? (i := 791) (by decide +kernel)⟩
theorem lw_p22 : lw_okq (⟨"SieveLoftModel", "valueIn", "(I)I"⟩, 32) := ⟨⟨by decide +kernel, by decide +kernel⟩, List.mem_of_getElem? (i := 551) (by decide +kernel), List.mem_of_getElem? (i := 794) (by decide +kernel), List.mem_of_getElem? (i := 795) (by decide +kernel)⟩
theorem lw_p23 : lw_okq (⟨"SieveLoftModel", "valueOf", "()I"⟩, 32) := ⟨⟨by decide +kernel, by decide +kernel⟩, List.mem_of_getElem? (i := 551) (by decide +kernel), List.mem_of_getElem? (i := 810) (by decide +kernel), List.mem_of_getElem? (i := 811) (by decide +kernel)⟩
theorem lw_p24 : lw_okq (⟨"SieveLoftModel", "keep", "()V"⟩, 32) := ⟨⟨by decide +kernel, by decide +kernel⟩, List.mem_of_getElem? (i := 551) (by decide +kernel), List.mem_of_getElem? (i := 814) (by decide +kernel), List.mem_of_getElem? (i := 815) (by decide +kernel)⟩
theorem lw_p25 : lw_okq (⟨"SieveLoftModel", "wearOut", "()V"⟩, 32) := ⟨⟨by decide +kernel, by decide +kernel⟩, List.mem_of_getElem? (i := 551) (by decide +kernel), List.mem_of_getElem? (i := 818) (by decide +kernel), List.mem_of_getElem? (i := 819) (by decide +kernel)⟩
theorem lw_p26 : lw_okq (⟨"SieveLoftModel", "findBest", "(IZ)V"⟩, 32) := ⟨⟨by decide +kernel, by decide +kernel⟩, List.mem_of_getElem? (i := 551) (by decide +kernel), List.mem_of_getElem? (i := 833) (by decide +kernel), List.mem_of_getElem? (i := 834) (by decide +kernel)⟩
theorem lw_p27 : lw_okq (⟨"SieveLoftModel", "isRow", "()Z"⟩, 32) := ⟨⟨by decide +kernel, by decide +kernel⟩, List.mem_of_getElem? (i := 551) (by decide +kernel), List.mem_of_getElem? (i := 837) (by decide +kernel), List.mem_of_getElem? (i := 838) (by decide +kernel)⟩
theorem lw_p28 : lw_okq (⟨"SieveLoftModel", "areParted", "()Z"⟩, 32) := ⟨⟨by decide +kernel, by decide +kernel⟩, List.mem_of_getElem? (i := 551) (by decide +kernel), List.mem_of_getElem? (i := 841) (by decide +kernel), List.mem_of_getElem? (i := 842) (by decide +kernel)⟩
theorem lw_p29 : lw_okq (⟨"SieveLoftModel", "takeBest", "(I)V"⟩, 32) := ⟨⟨by decide +kernel, by decide +kernel⟩, List.mem_of_getElem? (i := 551) (by decide +kernel), List.mem_of_getElem? (i := 845) (by decide +kernel), List.mem_of_getElem? (i := 846) (by decide +kernel)⟩
theorem lw_p30 : lw_okq (⟨"SieveLoftModel", "nextRow", "()Z"⟩, 32) := ⟨⟨by decide +kernel, by decide +kernel⟩, List.mem_of_getElem? (i := 551) (by decide +kernel), List.mem_of_getElem? (i := 849) (by decide +kernel), List.mem_of_getElem? (i := 850) (by decide +kernel)⟩
theorem lw_p31 : lw_okq (⟨"SieveLoftModel", "carried", "(IIZ)I"⟩, 32) := ⟨⟨by decide +kernel, by decide +kernel⟩, List.mem_of_getElem? (i := 551) (by decide +kernel), List.mem_of_getElem? (i := 877) (by decide +kernel), List.mem_of_getElem? (i := 878) (by decide +kernel)⟩
def lw_privs_2 : List (MethodName × Nat) := [(⟨"SieveLoftModel", "begin", "()V"⟩, 32), (⟨"SieveLoftModel", "takeRow", "()V"⟩, 32), (⟨"SieveLoftModel", "shakeOnce", "()V"⟩, 32), (⟨"SieveLoftModel", "passes", "(II)Z"⟩, 32), (⟨"SieveLoftModel", "grainsIn", "(I)I"⟩, 32), (⟨"SieveLoftModel", "amountIn", "(I)I"⟩, 32), (⟨"SieveLoftModel", "valueIn", "(I)I"⟩, 32), (⟨"SieveLoftModel", "valueOf", "()I"⟩, 32), (⟨"SieveLoftModel", "keep", "()V"⟩, 32), (⟨"SieveLoftModel", "wearOut", "()V"⟩, 32), (⟨"SieveLoftModel", "findBest", "(IZ)V"⟩, 32), (⟨"SieveLoftModel", "isRow", "()Z"⟩, 32), (⟨"SieveLoftModel", "areParted", "()Z"⟩, 32), (⟨"SieveLoftModel", "takeBest", "(I)V"⟩, 32), (⟨"SieveLoftModel", "nextRow", "()Z"⟩, 32), (⟨"SieveLoftModel", "carried", "(IIZ)I"⟩, 32)]
theorem lw_r2 : ∀ q ∈ lw_privs_2, lw_okq q := List.forall_mem_cons.mpr ⟨lw_p16, List.forall_mem_cons.mpr ⟨lw_p17, List.forall_mem_cons.mpr ⟨lw_p18, List.forall_mem_cons.mpr ⟨lw_p19, List.forall_mem_cons.mpr ⟨lw_p20, List.forall_mem_cons.mpr ⟨lw_p21, List.forall_mem_cons.mpr ⟨lw_p22, List.forall_mem_cons.mpr ⟨lw_p23, List.forall_mem_cons.mpr ⟨lw_p24, List.forall_mem_cons.mpr ⟨lw_p25, List.forall_mem_cons.mpr ⟨lw_p26, List.forall_mem_cons.mpr ⟨lw_p27, List.forall_mem_cons.mpr ⟨lw_p28, List.forall_mem_cons.mpr ⟨lw_p29, List.forall_mem_cons.mpr ⟨lw_p30, List.forall_mem_cons.mpr ⟨lw_p31, fun _ h => absurd h List.not_mem_nil⟩⟩⟩⟩⟩⟩⟩⟩⟩⟩⟩⟩⟩⟩⟩⟩
theorem lw_p32 : lw_okq (⟨"SieveLoftModel", "lacksRow", "(IIII)I"⟩, 32) := ⟨⟨by decide +kernel, by decide +kernel⟩, List.mem_of_getElem? (i := 551) (by decide +kernel), List.mem_of_getElem? (i := 900) (by decide +kernel), List.mem_of_getElem? (i := 901) (by decide +kernel)⟩
theorem lw_p33 : lw_okq (⟨"SieveLoftModel", "areFound", "(I)Z"⟩, 32) := ⟨⟨by decide +kernel, by decide +kernel⟩, List.mem_of_getElem? (i := 551) (by decide +kernel), List.mem_of_getElem? (i := 911) (by decide +kernel), List.mem_of_getElem? (i := 912) (by decide +kernel)⟩
def lw_privs_3 : List (MethodName × Nat) := [(⟨"SieveLoftModel", "lacksRow", "(IIII)I"⟩, 32), (⟨"SieveLoftModel", "areFound", "(I)Z"⟩, 32)]
theorem lw_r3 : ∀ q ∈ lw_privs_3, lw_okq q := List.forall_mem_cons.mpr ⟨lw_p32, List.forall_mem_cons.mpr ⟨lw_p33, fun _ h => absurd h List.not_mem_nil⟩⟩
def lw_privs : List (MethodName × Nat) := lw_privs_1 ++ (lw_privs_2 ++ (lw_privs_3))
def lw_tbl : List Cond := k2_sels lw_privs ++ tables_1
theorem lw_privs_ok : ∀ q ∈ lw_privs, lw_okq q := by
  show ∀ q ∈ lw_privs_1 ++ (lw_privs_2 ++ (lw_privs_3)), lw_okq q
  exact List.forall_mem_append.mpr ⟨lw_r1, List.forall_mem_append.mpr ⟨lw_r2, lw_r3⟩⟩
-- ===== end of PART A; then your names; then what follows =====
def RX0 : String := "SieveLoft$Mill"
def TX0 : u_T := fun k => match k with
  | 0 => ("SieveLoft$Mill", "grains", "I", false)
  | 1 => ("SieveLoft$Mill", "sieves", "I", false)
  | 2 => ("SieveLoft$Mill", "places", "I", false)
  | 3 => ("SieveLoft$Mill", "shakings", "I", false)
  | 4 => ("SieveLoft$Mill", "size", "[I", true)
  | 5 => ("SieveLoft$Mill", "amount", "[I", true)
  | 6 => ("SieveLoft$Mill", "price", "[I", true)
  | 7 => ("SieveLoft$Mill", "kind", "[I", true)
  | 8 => ("SieveLoft$Mill", "mesh", "[I", true)
  | 9 => ("SieveLoft$Mill", "holds", "[I", true)
  | 10 => ("SieveLoft$Mill", "wear", "[I", true)
  | 11 => ("SieveLoft$Mill", "row", "[I", true)
  | _ => ("SieveLoft$Mill", "heaps", "[I", true)
def tyX0 : Nat → FieldType := fun k => match k with
  | 0 => .int
  | 1 => .int
  | 2 => .int
  | 3 => .int
  | 4 => .array .int
  | 5 => .array .int
  | 6 => .array .int
  | 7 => .array .int
  | 8 => .array .int
  | 9 => .array .int
  | 10 => .array .int
  | 11 => .array .int
  | _ => .array .int
abbrev wsX00 : List Cond := u_ws RX0 TX0 13
theorem nmX0 : ∀ a, a < 13 → ∀ b, b < 13 → a ≠ b → (TX0 a).2.1 ≠ (TX0 b).2.1 := by decide +kernel
theorem tyX0_ok : ∀ k, k < 13 → parseFieldDescriptor (TX0 k).2.2.1 = some (tyX0 k) := by decide +kernel
abbrev cX0_init : ByteArray := prog_2_method_1_code
def yX0_init : MethodName := ⟨RX0, "<init>", "()V"⟩
abbrev cX0_hasGrain : ByteArray := prog_2_method_2_code
def yX0_hasGrain : MethodName := ⟨RX0, "hasGrain", "(I)Z"⟩
abbrev cX0_hasSieve : ByteArray := prog_2_method_3_code
def yX0_hasSieve : MethodName := ⟨RX0, "hasSieve", "(I)Z"⟩
abbrev cX0_hasHeap : ByteArray := prog_2_method_4_code
def yX0_hasHeap : MethodName := ⟨RX0, "hasHeap", "(I)Z"⟩
abbrev cX0_isInRow : ByteArray := prog_2_method_5_code
def yX0_isInRow : MethodName := ⟨RX0, "isInRow", "(I)Z"⟩
abbrev cX0_addGrain : ByteArray := prog_2_method_6_code
def yX0_addGrain : MethodName := ⟨RX0, "addGrain", "(III)I"⟩
abbrev cX0_addSieve : ByteArray := prog_2_method_7_code
def yX0_addSieve : MethodName := ⟨RX0, "addSieve", "(IIII)I"⟩
abbrev cX0_addPlace : ByteArray := prog_2_method_8_code
def yX0_addPlace : MethodName := ⟨RX0, "addPlace", "(I)V"⟩
abbrev cX0_takeGrains : ByteArray := prog_2_method_9_code
def yX0_takeGrains : MethodName := ⟨RX0, "takeGrains", "(LSieveLoft$Mill;)V"⟩
abbrev cX0_takeSieves : ByteArray := prog_2_method_10_code
def yX0_takeSieves : MethodName := ⟨RX0, "takeSieves", "(LSieveLoft$Mill;)V"⟩
abbrev cX0_takeRow : ByteArray := prog_2_method_11_code
def yX0_takeRow : MethodName := ⟨RX0, "takeRow", "(LSieveLoft$Mill;)V"⟩
abbrev cX0_takeAll : ByteArray := prog_2_method_12_code
def yX0_takeAll : MethodName := ⟨RX0, "takeAll", "(LSieveLoft$Mill;)V"⟩
abbrev cX0_load : ByteArray := prog_2_method_13_code
def yX0_load : MethodName := ⟨RX0, "load", "()I"⟩
abbrev cX0_amountOf : ByteArray := prog_2_method_14_code
def yX0_amountOf : MethodName := ⟨RX0, "amountOf", "(I)I"⟩
abbrev cX0_worth : ByteArray := prog_2_method_15_code
def yX0_worth : MethodName := ⟨RX0, "worth", "(I)I"⟩
abbrev cX0_letsFall : ByteArray := prog_2_method_16_code
def yX0_letsFall : MethodName := ⟨RX0, "letsFall", "(II)Z"⟩
abbrev cX0_tooBig : ByteArray := prog_2_method_17_code
def yX0_tooBig : MethodName := ⟨RX0, "tooBig", "(II)I"⟩
abbrev cX0_isTooMuch : ByteArray := prog_2_method_18_code
def yX0_isTooMuch : MethodName := ⟨RX0, "isTooMuch", "(II)Z"⟩
abbrev cX0_falling : ByteArray := prog_2_method_19_code
def yX0_falling : MethodName := ⟨RX0, "falling", "(II)I"⟩
abbrev cX0_spread : ByteArray := prog_2_method_20_code
def yX0_spread : MethodName := ⟨RX0, "spread", "()V"⟩
abbrev cX0_heapOf : ByteArray := prog_2_method_21_code
def yX0_heapOf : MethodName := ⟨RX0, "heapOf", "(I)I"⟩
abbrev cX0_heapOfSize : ByteArray := prog_2_method_22_code
def yX0_heapOfSize : MethodName := ⟨RX0, "heapOfSize", "(I)I"⟩
abbrev cX0_shakeThrough : ByteArray := prog_2_method_23_code
def yX0_shakeThrough : MethodName := ⟨RX0, "shakeThrough", "([II)I"⟩
abbrev cX0_widen : ByteArray := prog_2_method_24_code
def yX0_widen : MethodName := ⟨RX0, "widen", "(I)V"⟩
def RX1 : String := "SieveLoft$Search"
def TX1 : u_T := fun k => match k with
  | 0 => ("SieveLoft$Search", "tried", "[I", true)
  | 1 => ("SieveLoft$Search", "chosen", "[I", true)
  | 2 => ("SieveLoft$Search", "limit", "I", false)
  | 3 => ("SieveLoft$Search", "apart", "I", false)
  | 4 => ("SieveLoft$Search", "value", "I", false)
  | _ => ("SieveLoft$Search", "length", "I", false)
def tyX1 : Nat → FieldType := fun k => match k with
  | 0 => .array .int
  | 1 => .array .int
  | 2 => .int
  | 3 => .int
  | 4 => .int
  | _ => .int
abbrev wsX10 : List Cond := u_ws RX1 TX1 6
theorem nmX1 : ∀ a, a < 6 → ∀ b, b < 6 → a ≠ b → (TX1 a).2.1 ≠ (TX1 b).2.1 := by decide +kernel
theorem tyX1_ok : ∀ k, k < 6 → parseFieldDescriptor (TX1 k).2.2.1 = some (tyX1 k) := by decide +kernel
abbrev cX1_init : ByteArray := prog_3_method_1_code
def yX1_init : MethodName := ⟨RX1, "<init>", "()V"⟩
abbrev cX1_begin : ByteArray := prog_3_method_2_code
def yX1_begin : MethodName := ⟨RX1, "begin", "(II)V"⟩
abbrev cX1_choose : ByteArray := prog_3_method_3_code
def yX1_choose : MethodName := ⟨RX1, "choose", "(II)V"⟩
abbrev cX1_mixes : ByteArray := prog_3_method_4_code
def yX1_mixes : MethodName := ⟨RX1, "mixes", "(I)Z"⟩
abbrev cX1_chosenAt : ByteArray := prog_3_method_5_code
def yX1_chosenAt : MethodName := ⟨RX1, "chosenAt", "(I)I"⟩
def RX2 : String := "SieveLoft$Sheet"
def TX2 : u_T := fun k => match k with
  | 0 => ("SieveLoft$Sheet", "items", "[I", true)
  | 1 => ("SieveLoft$Sheet", "lane", "I", false)
  | _ => ("SieveLoft$Sheet", "length", "I", false)
def tyX2 : Nat → FieldType := fun k => match k with
  | 0 => .array .int
  | 1 => .int
  | _ => .int
abbrev wsX20 : List Cond := u_ws RX2 TX2 3
theorem nmX2 : ∀ a, a < 3 → ∀ b, b < 3 → a ≠ b → (TX2 a).2.1 ≠ (TX2 b).2.1 := by decide +kernel
theorem tyX2_ok : ∀ k, k < 3 → parseFieldDescriptor (TX2 k).2.2.1 = some (tyX2 k) := by decide +kernel
abbrev cX2_init : ByteArray := prog_4_method_1_code
def yX2_init : MethodName := ⟨RX2, "<init>", "()V"⟩
abbrev cX2_renew : ByteArray := prog_4_method_2_code
def yX2_renew : MethodName := ⟨RX2, "renew", "(II)V"⟩
abbrev cX2_hasItems : ByteArray := prog_4_method_3_code
def yX2_hasItems : MethodName := ⟨RX2, "hasItems", "(II)Z"⟩
abbrev cX2_refusal : ByteArray := prog_4_method_4_code
def yX2_refusal : MethodName := ⟨RX2, "refusal", "(III)I"⟩
abbrev cX2_write : ByteArray := prog_4_method_5_code
def yX2_write : MethodName := ⟨RX2, "write", "(II)V"⟩
def RX3 : String := "SieveLoft$Tape"
def TX3 : u_T := fun k => match k with
  | 0 => ("SieveLoft$Tape", "bytes", "[I", true)
  | 1 => ("SieveLoft$Tape", "length", "I", false)
  | 2 => ("SieveLoft$Tape", "place", "I", false)
  | _ => ("SieveLoft$Tape", "fault", "I", false)
def tyX3 : Nat → FieldType := fun k => match k with
  | 0 => .array .int
  | 1 => .int
  | 2 => .int
  | _ => .int
abbrev wsX30 : List Cond := u_ws RX3 TX3 4
theorem nmX3 : ∀ a, a < 4 → ∀ b, b < 4 → a ≠ b → (TX3 a).2.1 ≠ (TX3 b).2.1 := by decide +kernel
theorem tyX3_ok : ∀ k, k < 4 → parseFieldDescriptor (TX3 k).2.2.1 = some (tyX3 k) := by decide +kernel
abbrev cX3_init : ByteArray := prog_5_method_1_code
def yX3_init : MethodName := ⟨RX3, "<init>", "()V"⟩
abbrev cX3_append : ByteArray := prog_5_method_2_code
def yX3_append : MethodName := ⟨RX3, "append", "(I)V"⟩
abbrev cX3_readLoft : ByteArray := prog_5_method_3_code
def yX3_readLoft : MethodName := ⟨RX3, "readLoft", "(LSieveLoft$Mill;)V"⟩
abbrev cX3_readHeap : ByteArray := prog_5_method_4_code
def yX3_readHeap : MethodName := ⟨RX3, "readHeap", "(LSieveLoft$Mill;)V"⟩
abbrev cX3_readRow : ByteArray := prog_5_method_5_code
def yX3_readRow : MethodName := ⟨RX3, "readRow", "(LSieveLoft$Mill;I)V"⟩
abbrev cX3_begin : ByteArray := prog_5_method_6_code
def yX3_begin : MethodName := ⟨RX3, "begin", "()V"⟩
abbrev cX3_end : ByteArray := prog_5_method_7_code
def yX3_end : MethodName := ⟨RX3, "end", "()V"⟩
abbrev cX3_answerOr : ByteArray := prog_5_method_8_code
def yX3_answerOr : MethodName := ⟨RX3, "answerOr", "(I)I"⟩
abbrev cX3_blame : ByteArray := prog_5_method_9_code
def yX3_blame : MethodName := ⟨RX3, "blame", "(I)V"⟩
abbrev cX3_next : ByteArray := prog_5_method_10_code
def yX3_next : MethodName := ⟨RX3, "next", "()I"⟩
abbrev cX3_passes : ByteArray := prog_5_method_11_code
def yX3_passes : MethodName := ⟨RX3, "passes", "(I)Z"⟩
abbrev cX3_readKind : ByteArray := prog_5_method_12_code
def yX3_readKind : MethodName := ⟨RX3, "readKind", "()I"⟩
abbrev cX3_readDigit : ByteArray := prog_5_method_13_code
def yX3_readDigit : MethodName := ⟨RX3, "readDigit", "(I)I"⟩
abbrev cX3_readNumber : ByteArray := prog_5_method_14_code
def yX3_readNumber : MethodName := ⟨RX3, "readNumber", "(II)I"⟩
def RX4 : String := "SieveLoft"
def TX4 : u_T := fun k => match k with
  | 0 => ("SieveLoft", "mill", "LSieveLoft$Mill;", true)
  | 1 => ("SieveLoft", "trial", "LSieveLoft$Mill;", true)
  | 2 => ("SieveLoft", "kept", "LSieveLoft$Mill;", true)
  | 3 => ("SieveLoft", "keeps", "Z", false)
  | 4 => ("SieveLoft", "search", "LSieveLoft$Search;", true)
  | 5 => ("SieveLoft", "tape", "LSieveLoft$Tape;", true)
  | _ => ("SieveLoft", "sheets", "[LSieveLoft$Sheet;", true)
def tyX4 : Nat → FieldType := fun k => match k with
  | 0 => .object "SieveLoft$Mill"
  | 1 => .object "SieveLoft$Mill"
  | 2 => .object "SieveLoft$Mill"
  | 3 => .boolean
  | 4 => .object "SieveLoft$Search"
  | 5 => .object "SieveLoft$Tape"
  | _ => .array (.object "SieveLoft$Sheet")
abbrev wsX40 : List Cond := u_ws RX4 TX4 7
theorem nmX4 : ∀ a, a < 7 → ∀ b, b < 7 → a ≠ b → (TX4 a).2.1 ≠ (TX4 b).2.1 := by decide +kernel
theorem tyX4_ok : ∀ k, k < 7 → parseFieldDescriptor (TX4 k).2.2.1 = some (tyX4 k) := by decide +kernel
abbrev cX4_init : ByteArray := prog_1_method_1_code
def yX4_init : MethodName := ⟨RX4, "<init>", "()V"⟩
abbrev cX4_grain : ByteArray := prog_1_method_2_code
def yX4_grain : MethodName := ⟨RX4, "grain", "(III)I"⟩
abbrev cX4_set : ByteArray := prog_1_method_3_code
def yX4_set : MethodName := ⟨RX4, "set", "(III)I"⟩
abbrev cX4_sieve : ByteArray := prog_1_method_4_code
def yX4_sieve : MethodName := ⟨RX4, "sieve", "(IIII)I"⟩
abbrev cX4_told : ByteArray := prog_1_method_5_code
def yX4_told : MethodName := ⟨RX4, "told", "(II)I"⟩
abbrev cX4_mend : ByteArray := prog_1_method_6_code
def yX4_mend : MethodName := ⟨RX4, "mend", "(II)I"⟩
abbrev cX4_type : ByteArray := prog_1_method_7_code
def yX4_type : MethodName := ⟨RX4, "type", "(JI)I"⟩
abbrev cX4_loft : ByteArray := prog_1_method_8_code
def yX4_loft : MethodName := ⟨RX4, "loft", "()I"⟩
abbrev cX4_heap : ByteArray := prog_1_method_9_code
def yX4_heap : MethodName := ⟨RX4, "heap", "()I"⟩
abbrev cX4_row : ByteArray := prog_1_method_10_code
def yX4_row : MethodName := ⟨RX4, "row", "()I"⟩
abbrev cX4_count : ByteArray := prog_1_method_11_code
def yX4_count : MethodName := ⟨RX4, "count", "(I)I"⟩
abbrev cX4_found : ByteArray := prog_1_method_12_code
def yX4_found : MethodName := ⟨RX4, "found", "(II)I"⟩
abbrev cX4_where : ByteArray := prog_1_method_13_code
def yX4_where : MethodName := ⟨RX4, "where", "(I)I"⟩
abbrev cX4_chokes : ByteArray := prog_1_method_14_code
def yX4_chokes : MethodName := ⟨RX4, "chokes", "()I"⟩
abbrev cX4_shake : ByteArray := prog_1_method_15_code
def yX4_shake : MethodName := ⟨RX4, "shake", "()I"⟩
abbrev cX4_lasts : ByteArray := prog_1_method_16_code
def yX4_lasts : MethodName := ⟨RX4, "lasts", "()I"⟩
abbrev cX4_best : ByteArray := prog_1_method_17_code
def yX4_best : MethodName := ⟨RX4, "best", "(II)I"⟩
abbrev cX4_parted : ByteArray := prog_1_method_18_code
def yX4_parted : MethodName := ⟨RX4, "parted", "(II)I"⟩
abbrev cX4_season : ByteArray := prog_1_method_19_code
def yX4_season : MethodName := ⟨RX4, "season", "(II)I"⟩
abbrev cX4_fits : ByteArray := prog_1_method_20_code
def yX4_fits : MethodName := ⟨RX4, "fits", "(I)J"⟩
abbrev cX4_shares : ByteArray := prog_1_method_21_code
def yX4_shares : MethodName := ⟨RX4, "shares", "(IIII)I"⟩
abbrev cX4_image : ByteArray := prog_1_method_22_code
def yX4_image : MethodName := ⟨RX4, "image", "()I"⟩
abbrev cX4_restore : ByteArray := prog_1_method_23_code
def yX4_restore : MethodName := ⟨RX4, "restore", "()I"⟩
abbrev cX4_meshes : ByteArray := prog_1_method_24_code
def yX4_meshes : MethodName := ⟨RX4, "meshes", "(IIII)J"⟩
abbrev cX4_torn : ByteArray := prog_1_method_25_code
def yX4_torn : MethodName := ⟨RX4, "torn", "(III)I"⟩
abbrev cX4_sheet : ByteArray := prog_1_method_26_code
def yX4_sheet : MethodName := ⟨RX4, "sheet", "(III)I"⟩
abbrev cX4_drop : ByteArray := prog_1_method_27_code
def yX4_drop : MethodName := ⟨RX4, "drop", "(I)I"⟩
abbrev cX4_item : ByteArray := prog_1_method_28_code
def yX4_item : MethodName := ⟨RX4, "item", "(IIII)I"⟩
abbrev cX4_film : ByteArray := prog_1_method_29_code
def yX4_film : MethodName := ⟨RX4, "film", "(III)I"⟩
abbrev cX4_copy : ByteArray := prog_1_method_30_code
def yX4_copy : MethodName := ⟨RX4, "copy", "(IIIII)I"⟩
abbrev cX4_within : ByteArray := prog_1_method_31_code
def yX4_within : MethodName := ⟨RX4, "within", "(III)Z"⟩
abbrev cX4_at : ByteArray := prog_1_method_32_code
def yX4_at : MethodName := ⟨RX4, "at", "([II)I"⟩
abbrev cX4_put : ByteArray := prog_1_method_33_code
def yX4_put : MethodName := ⟨RX4, "put", "([III)V"⟩
abbrev cX4_exchange : ByteArray := prog_1_method_34_code
def yX4_exchange : MethodName := ⟨RX4, "exchange", "([III)I"⟩
abbrev cX4_copyAll : ByteArray := prog_1_method_35_code
def yX4_copyAll : MethodName := ⟨RX4, "copyAll", "([I[I)V"⟩
abbrev cX4_byteOf : ByteArray := prog_1_method_36_code
def yX4_byteOf : MethodName := ⟨RX4, "byteOf", "(JI)I"⟩
abbrev cX4_isLane : ByteArray := prog_1_method_37_code
def yX4_isLane : MethodName := ⟨RX4, "isLane", "(I)Z"⟩
abbrev cX4_sheetAt : ByteArray := prog_1_method_38_code
def yX4_sheetAt : MethodName := ⟨RX4, "sheetAt", "(I)LSieveLoft$Sheet;"⟩
abbrev cX4_sameHeaps : ByteArray := prog_1_method_39_code
def yX4_sameHeaps : MethodName := ⟨RX4, "sameHeaps", "()Z"⟩
abbrev cX4_bearsOut : ByteArray := prog_1_method_40_code
def yX4_bearsOut : MethodName := ⟨RX4, "bearsOut", "(LSieveLoft$Mill;LSieveLoft$Sheet;I)Z"⟩
abbrev cX4_seekBest : ByteArray := prog_1_method_41_code
def yX4_seekBest : MethodName := ⟨RX4, "seekBest", "(I)V"⟩
abbrev cX4_tryBest : ByteArray := prog_1_method_42_code
def yX4_tryBest : MethodName := ⟨RX4, "tryBest", "(LSieveLoft$Mill;LSieveLoft$Search;III)V"⟩
abbrev cX4_tryParted : ByteArray := prog_1_method_43_code
def yX4_tryParted : MethodName := ⟨RX4, "tryParted", "(LSieveLoft$Mill;LSieveLoft$Search;II)V"⟩
def RX5 : String := "SieveLoftModel"
def TX5 : u_T := fun k => match k with
  | 0 => ("SieveLoftModel", "sizes", "[I", true)
  | 1 => ("SieveLoftModel", "amounts", "[I", true)
  | 2 => ("SieveLoftModel", "prices", "[I", true)
  | 3 => ("SieveLoftModel", "grains", "I", false)
  | 4 => ("SieveLoftModel", "z", "[I", true)
  | 5 => ("SieveLoftModel", "sieves", "I", false)
  | 6 => ("SieveLoftModel", "theRow", "[I", true)
  | 7 => ("SieveLoftModel", "rowMany", "I", false)
  | 8 => ("SieveLoftModel", "shakings", "I", false)
  | 9 => ("SieveLoftModel", "tape", "[I", true)
  | 10 => ("SieveLoftModel", "taped", "I", false)
  | 11 => ("SieveLoftModel", "place", "I", false)
  | 12 => ("SieveLoftModel", "reads", "I", false)
  | 13 => ("SieveLoftModel", "read", "[I", true)
  | 14 => ("SieveLoftModel", "tryRow", "[I", true)
  | 15 => ("SieveLoftModel", "tryMany", "I", false)
  | 16 => ("SieveLoftModel", "tryKinds", "[I", true)
  | 17 => ("SieveLoftModel", "meshes", "[I", true)
  | 18 => ("SieveLoftModel", "heaps", "[I", true)
  | 19 => ("SieveLoftModel", "choking", "I", false)
  | 20 => ("SieveLoftModel", "falling", "I", false)
  | 21 => ("SieveLoftModel", "firstHeaps", "[I", true)
  | 22 => ("SieveLoftModel", "parting", "I", false)
  | 23 => ("SieveLoftModel", "bestValue", "I", false)
  | 24 => ("SieveLoftModel", "bestMany", "I", false)
  | 25 => ("SieveLoftModel", "best", "[I", true)
  | 26 => ("SieveLoftModel", "isKept", "Z", false)
  | 27 => ("SieveLoftModel", "kept", "[I", true)
  | 28 => ("SieveLoftModel", "lanes", "[I", true)
  | 29 => ("SieveLoftModel", "rowSizes", "[I", true)
  | 30 => ("SieveLoftModel", "items", "[I", true)
  | _ => ("SieveLoftModel", "moved", "[I", true)
def tyX5 : Nat → FieldType := fun k => match k with
  | 0 => .array .int
  | 1 => .array .int
  | 2 => .array .int
  | 3 => .int
  | 4 => .array .int
  | 5 => .int
  | 6 => .array .int
  | 7 => .int
  | 8 => .int
  | 9 => .array .int
  | 10 => .int
  | 11 => .int
  | 12 => .int
  | 13 => .array .int
  | 14 => .array .int
  | 15 => .int
  | 16 => .array .int
  | 17 => .array .int
  | 18 => .array .int
  | 19 => .int
  | 20 => .int
  | 21 => .array .int
  | 22 => .int
  | 23 => .int
  | 24 => .int
  | 25 => .array .int
  | 26 => .boolean
  | 27 => .array .int
  | 28 => .array .int
  | 29 => .array .int
  | 30 => .array .int
  | _ => .array .int
abbrev wsX50 : List Cond := u_ws RX5 TX5 32
theorem nmX5 : ∀ a, a < 32 → ∀ b, b < 32 → a ≠ b → (TX5 a).2.1 ≠ (TX5 b).2.1 := by decide +kernel
theorem tyX5_ok : ∀ k, k < 32 → parseFieldDescriptor (TX5 k).2.2.1 = some (tyX5 k) := by decide +kernel
abbrev cX5_init : ByteArray := prog_7_method_1_code
def yX5_init : MethodName := ⟨RX5, "<init>", "()V"⟩
abbrev cX5_in : ByteArray := prog_7_method_2_code
def yX5_in : MethodName := ⟨RX5, "in", "(JJJ)Z"⟩
abbrev cX5_has : ByteArray := prog_7_method_3_code
def yX5_has : MethodName := ⟨RX5, "has", "(II)Z"⟩
abbrev cX5_isGrain : ByteArray := prog_7_method_4_code
def yX5_isGrain : MethodName := ⟨RX5, "isGrain", "(I)Z"⟩
abbrev cX5_isSieve : ByteArray := prog_7_method_5_code
def yX5_isSieve : MethodName := ⟨RX5, "isSieve", "(I)Z"⟩
abbrev cX5_addGrain : ByteArray := prog_7_method_6_code
def yX5_addGrain : MethodName := ⟨RX5, "addGrain", "(III)V"⟩
abbrev cX5_grain : ByteArray := prog_7_method_7_code
def yX5_grain : MethodName := ⟨RX5, "grain", "(III)I"⟩
abbrev cX5_set : ByteArray := prog_7_method_8_code
def yX5_set : MethodName := ⟨RX5, "set", "(III)I"⟩
abbrev cX5_addSieve : ByteArray := prog_7_method_9_code
def yX5_addSieve : MethodName := ⟨RX5, "addSieve", "(IIII)V"⟩
abbrev cX5_sieve : ByteArray := prog_7_method_10_code
def yX5_sieve : MethodName := ⟨RX5, "sieve", "(IIII)I"⟩
abbrev cX5_told : ByteArray := prog_7_method_11_code
def yX5_told : MethodName := ⟨RX5, "told", "(II)I"⟩
abbrev cX5_mend : ByteArray := prog_7_method_12_code
def yX5_mend : MethodName := ⟨RX5, "mend", "(II)I"⟩
abbrev cX5_count : ByteArray := prog_7_method_13_code
def yX5_count : MethodName := ⟨RX5, "count", "(I)I"⟩
abbrev cX5_type : ByteArray := prog_7_method_14_code
def yX5_type : MethodName := ⟨RX5, "type", "(JI)I"⟩
abbrev cX5_nextByte : ByteArray := prog_7_method_15_code
def yX5_nextByte : MethodName := ⟨RX5, "nextByte", "()I"⟩
abbrev cX5_takes : ByteArray := prog_7_method_16_code
def yX5_takes : MethodName := ⟨RX5, "takes", "(I)Z"⟩
abbrev cX5_readNumber : ByteArray := prog_7_method_17_code
def yX5_readNumber : MethodName := ⟨RX5, "readNumber", "(II)I"⟩
abbrev cX5_readSieve : ByteArray := prog_7_method_18_code
def yX5_readSieve : MethodName := ⟨RX5, "readSieve", "(I)Z"⟩
abbrev cX5_readGrain : ByteArray := prog_7_method_19_code
def yX5_readGrain : MethodName := ⟨RX5, "readGrain", "(I)Z"⟩
abbrev cX5_readAll : ByteArray := prog_7_method_20_code
def yX5_readAll : MethodName := ⟨RX5, "readAll", "(IZ)Z"⟩
abbrev cX5_end : ByteArray := prog_7_method_21_code
def yX5_end : MethodName := ⟨RX5, "end", "(Z)I"⟩
abbrev cX5_loft : ByteArray := prog_7_method_22_code
def yX5_loft : MethodName := ⟨RX5, "loft", "()I"⟩
abbrev cX5_heap : ByteArray := prog_7_method_23_code
def yX5_heap : MethodName := ⟨RX5, "heap", "()I"⟩
abbrev cX5_readRow : ByteArray := prog_7_method_24_code
def yX5_readRow : MethodName := ⟨RX5, "readRow", "()Z"⟩
abbrev cX5_row : ByteArray := prog_7_method_25_code
def yX5_row : MethodName := ⟨RX5, "row", "()I"⟩
abbrev cX5_begin : ByteArray := prog_7_method_26_code
def yX5_begin : MethodName := ⟨RX5, "begin", "()V"⟩
abbrev cX5_takeRow : ByteArray := prog_7_method_27_code
def yX5_takeRow : MethodName := ⟨RX5, "takeRow", "()V"⟩
abbrev cX5_passes : ByteArray := prog_7_method_28_code
def yX5_passes : MethodName := ⟨RX5, "passes", "(II)Z"⟩
abbrev cX5_shakeOnce : ByteArray := prog_7_method_29_code
def yX5_shakeOnce : MethodName := ⟨RX5, "shakeOnce", "()V"⟩
abbrev cX5_wearOut : ByteArray := prog_7_method_30_code
def yX5_wearOut : MethodName := ⟨RX5, "wearOut", "()V"⟩
abbrev cX5_grainsIn : ByteArray := prog_7_method_31_code
def yX5_grainsIn : MethodName := ⟨RX5, "grainsIn", "(I)I"⟩
abbrev cX5_amountIn : ByteArray := prog_7_method_32_code
def yX5_amountIn : MethodName := ⟨RX5, "amountIn", "(I)I"⟩
abbrev cX5_valueIn : ByteArray := prog_7_method_33_code
def yX5_valueIn : MethodName := ⟨RX5, "valueIn", "(I)I"⟩
abbrev cX5_valueOf : ByteArray := prog_7_method_34_code
def yX5_valueOf : MethodName := ⟨RX5, "valueOf", "()I"⟩
abbrev cX5_tryNow : ByteArray := prog_7_method_35_code
def yX5_tryNow : MethodName := ⟨RX5, "tryNow", "()V"⟩
abbrev cX5_found : ByteArray := prog_7_method_36_code
def yX5_found : MethodName := ⟨RX5, "found", "(II)I"⟩
abbrev cX5_where : ByteArray := prog_7_method_37_code
def yX5_where : MethodName := ⟨RX5, "where", "(I)I"⟩
abbrev cX5_chokes : ByteArray := prog_7_method_38_code
def yX5_chokes : MethodName := ⟨RX5, "chokes", "()I"⟩
abbrev cX5_keep : ByteArray := prog_7_method_39_code
def yX5_keep : MethodName := ⟨RX5, "keep", "()V"⟩
abbrev cX5_shake : ByteArray := prog_7_method_40_code
def yX5_shake : MethodName := ⟨RX5, "shake", "()I"⟩
abbrev cX5_lasts : ByteArray := prog_7_method_41_code
def yX5_lasts : MethodName := ⟨RX5, "lasts", "()I"⟩
abbrev cX5_isRow : ByteArray := prog_7_method_42_code
def yX5_isRow : MethodName := ⟨RX5, "isRow", "()Z"⟩
abbrev cX5_nextRow : ByteArray := prog_7_method_43_code
def yX5_nextRow : MethodName := ⟨RX5, "nextRow", "()Z"⟩
abbrev cX5_areParted : ByteArray := prog_7_method_44_code
def yX5_areParted : MethodName := ⟨RX5, "areParted", "()Z"⟩
abbrev cX5_takeBest : ByteArray := prog_7_method_45_code
def yX5_takeBest : MethodName := ⟨RX5, "takeBest", "(I)V"⟩
abbrev cX5_findBest : ByteArray := prog_7_method_46_code
def yX5_findBest : MethodName := ⟨RX5, "findBest", "(IZ)V"⟩
abbrev cX5_best : ByteArray := prog_7_method_47_code
def yX5_best : MethodName := ⟨RX5, "best", "(II)I"⟩
abbrev cX5_parted : ByteArray := prog_7_method_48_code
def yX5_parted : MethodName := ⟨RX5, "parted", "(II)I"⟩
abbrev cX5_season : ByteArray := prog_7_method_49_code
def yX5_season : MethodName := ⟨RX5, "season", "(II)I"⟩
abbrev cX5_fits : ByteArray := prog_7_method_50_code
def yX5_fits : MethodName := ⟨RX5, "fits", "(I)J"⟩
abbrev cX5_shares : ByteArray := prog_7_method_51_code
def yX5_shares : MethodName := ⟨RX5, "shares", "(IIII)I"⟩
abbrev cX5_carried : ByteArray := prog_7_method_52_code
def yX5_carried : MethodName := ⟨RX5, "carried", "(IIZ)I"⟩
abbrev cX5_image : ByteArray := prog_7_method_53_code
def yX5_image : MethodName := ⟨RX5, "image", "()I"⟩
abbrev cX5_restore : ByteArray := prog_7_method_54_code
def yX5_restore : MethodName := ⟨RX5, "restore", "()I"⟩
abbrev cX5_isSheet : ByteArray := prog_7_method_55_code
def yX5_isSheet : MethodName := ⟨RX5, "isSheet", "(II)Z"⟩
abbrev cX5_asLane : ByteArray := prog_7_method_56_code
def yX5_asLane : MethodName := ⟨RX5, "asLane", "(II)I"⟩
abbrev cX5_sheet : ByteArray := prog_7_method_57_code
def yX5_sheet : MethodName := ⟨RX5, "sheet", "(III)I"⟩
abbrev cX5_drop : ByteArray := prog_7_method_58_code
def yX5_drop : MethodName := ⟨RX5, "drop", "(I)I"⟩
abbrev cX5_lacksRow : ByteArray := prog_7_method_59_code
def yX5_lacksRow : MethodName := ⟨RX5, "lacksRow", "(IIII)I"⟩
abbrev cX5_item : ByteArray := prog_7_method_60_code
def yX5_item : MethodName := ⟨RX5, "item", "(IIII)I"⟩
abbrev cX5_areFound : ByteArray := prog_7_method_61_code
def yX5_areFound : MethodName := ⟨RX5, "areFound", "(I)Z"⟩
abbrev cX5_meshes : ByteArray := prog_7_method_62_code
def yX5_meshes : MethodName := ⟨RX5, "meshes", "(IIII)J"⟩
abbrev cX5_torn : ByteArray := prog_7_method_63_code
def yX5_torn : MethodName := ⟨RX5, "torn", "(III)I"⟩
abbrev cX5_film : ByteArray := prog_7_method_64_code
def yX5_film : MethodName := ⟨RX5, "film", "(III)I"⟩
abbrev cX5_copy : ByteArray := prog_7_method_65_code
def yX5_copy : MethodName := ⟨RX5, "copy", "(IIIII)I"⟩
def RJ6 : String := "java/lang/Integer"
abbrev cJ6_bitCount_0f7a4 : ByteArray := prog_8_method_49_code
def yJ6_bitCount_0f7a4 : MethodName := ⟨RJ6, "bitCount", "(I)I"⟩
def RJ9 : String := "java/lang/Math"
abbrev cJ9_min_7cf53 : ByteArray := prog_9_method_69_code
def yJ9_min_7cf53 : MethodName := ⟨RJ9, "min", "(II)I"⟩
def RJ10 : String := "java/lang/System"
def RL : String := "SieveLoftLaw"
abbrev cL_law : ByteArray := code
def yL_law : MethodName := ⟨RL, "law", "([I)Z"⟩
abbrev vwCl : List vw_C := [(RX0, TX0, 13), (RX1, TX1, 6), (RX2, TX2, 3), (RX3, TX3, 4), (RX4, TX4, 7), (RX5, TX5, 32)]
end
section
theorem dX0_init_0 : decode cX0_init 0 = .ok (.aload_n 0, 1) := by decide +kernel
theorem dX0_init_1 : decode cX0_init 1 = .ok (.invokespecial 3, 3) := by decide +kernel
theorem dX0_init_4 : decode cX0_init 4 = .ok (.aload_n 0, 1) := by decide +kernel
theorem dX0_init_5 : decode cX0_init 5 = .ok (.bipush 6, 2) := by decide +kernel
theorem dX0_init_7 : decode cX0_init 7 = .ok (.newarray .int, 2) := by decide +kernel
theorem dX0_init_9 : decode cX0_init 9 = .ok (.putfield 9, 3) := by decide +kernel
theorem dX0_init_12 : decode cX0_init 12 = .ok (.aload_n 0, 1) := by decide +kernel
theorem dX0_init_13 : decode cX0_init 13 = .ok (.bipush 6, 2) := by decide +kernel
theorem dX0_init_15 : decode cX0_init 15 = .ok (.newarray .int, 2) := by decide +kernel
theorem dX0_init_17 : decode cX0_init 17 = .ok (.putfield 15, 3) := by decide +kernel
theorem dX0_init_20 : decode cX0_init 20 = .ok (.aload_n 0, 1) := by decide +kernel
theorem dX0_init_21 : decode cX0_init 21 = .ok (.bipush 6, 2) := by decide +kernel
theorem dX0_init_23 : decode cX0_init 23 = .ok (.newarray .int, 2) := by decide +kernel
theorem dX0_init_25 : decode cX0_init 25 = .ok (.putfield 18, 3) := by decide +kernel
theorem dX0_init_28 : decode cX0_init 28 = .ok (.aload_n 0, 1) := by decide +kernel
theorem dX0_init_29 : decode cX0_init 29 = .ok (.bipush 8, 2) := by decide +kernel
theorem dX0_init_31 : decode cX0_init 31 = .ok (.newarray .int, 2) := by decide +kernel
theorem dX0_init_33 : decode cX0_init 33 = .ok (.putfield 21, 3) := by decide +kernel
theorem dX0_init_36 : decode cX0_init 36 = .ok (.aload_n 0, 1) := by decide +kernel
theorem dX0_init_37 : decode cX0_init 37 = .ok (.bipush 8, 2) := by decide +kernel
theorem dX0_init_39 : decode cX0_init 39 = .ok (.newarray .int, 2) := by decide +kernel
theorem dX0_init_41 : decode cX0_init 41 = .ok (.putfield 24, 3) := by decide +kernel
theorem dX0_init_44 : decode cX0_init 44 = .ok (.aload_n 0, 1) := by decide +kernel
theorem dX0_init_45 : decode cX0_init 45 = .ok (.bipush 8, 2) := by decide +kernel
theorem dX0_init_47 : decode cX0_init 47 = .ok (.newarray .int, 2) := by decide +kernel
theorem dX0_init_49 : decode cX0_init 49 = .ok (.putfield 27, 3) := by decide +kernel
theorem dX0_init_52 : decode cX0_init 52 = .ok (.aload_n 0, 1) := by decide +kernel
theorem dX0_init_53 : decode cX0_init 53 = .ok (.bipush 8, 2) := by decide +kernel
theorem dX0_init_55 : decode cX0_init 55 = .ok (.newarray .int, 2) := by decide +kernel
theorem dX0_init_57 : decode cX0_init 57 = .ok (.putfield 30, 3) := by decide +kernel
theorem dX0_init_60 : decode cX0_init 60 = .ok (.aload_n 0, 1) := by decide +kernel
theorem dX0_init_61 : decode cX0_init 61 = .ok (.bipush 6, 2) := by decide +kernel
theorem dX0_init_63 : decode cX0_init 63 = .ok (.newarray .int, 2) := by decide +kernel
theorem dX0_init_65 : decode cX0_init 65 = .ok (.putfield 33, 3) := by decide +kernel
theorem dX0_init_68 : decode cX0_init 68 = .ok (.aload_n 0, 1) := by decide +kernel
theorem dX0_init_69 : decode cX0_init 69 = .ok (.bipush 7, 2) := by decide +kernel
theorem dX0_init_71 : decode cX0_init 71 = .ok (.newarray .int, 2) := by decide +kernel
theorem dX0_init_73 : decode cX0_init 73 = .ok (.putfield 36, 3) := by decide +kernel
theorem dX0_init_76 : decode cX0_init 76 = .ok (.return_, 1) := by decide +kernel
theorem dX0_hasGrain_0 : decode cX0_hasGrain 0 = .ok (.iload_n 1, 1) := by decide +kernel
theorem dX0_hasGrain_1 : decode cX0_hasGrain 1 = .ok (.ifCond .lt 15, 3) := by decide +kernel
theorem dX0_hasGrain_4 : decode cX0_hasGrain 4 = .ok (.iload_n 1, 1) := by decide +kernel
theorem dX0_hasGrain_5 : decode cX0_hasGrain 5 = .ok (.aload_n 0, 1) := by decide +kernel
theorem dX0_hasGrain_6 : decode cX0_hasGrain 6 = .ok (.getfield 39, 3) := by decide +kernel
theorem dX0_hasGrain_9 : decode cX0_hasGrain 9 = .ok (.if_icmp .ge 7, 3) := by decide +kernel
theorem dX0_hasGrain_12 : decode cX0_hasGrain 12 = .ok (.iconst 1, 1) := by decide +kernel
theorem dX0_hasGrain_13 : decode cX0_hasGrain 13 = .ok (.goto 4, 3) := by decide +kernel
theorem dX0_hasGrain_16 : decode cX0_hasGrain 16 = .ok (.iconst 0, 1) := by decide +kernel
theorem dX0_hasGrain_17 : decode cX0_hasGrain 17 = .ok (.ireturn, 1) := by decide +kernel
theorem dX0_hasSieve_0 : decode cX0_hasSieve 0 = .ok (.iload_n 1, 1) := by decide +kernel
theorem dX0_hasSieve_1 : decode cX0_hasSieve 1 = .ok (.ifCond .lt 15, 3) := by decide +kernel
theorem dX0_hasSieve_4 : decode cX0_hasSieve 4 = .ok (.iload_n 1, 1) := by decide +kernel
theorem dX0_hasSieve_5 : decode cX0_hasSieve 5 = .ok (.aload_n 0, 1) := by decide +kernel
theorem dX0_hasSieve_6 : decode cX0_hasSieve 6 = .ok (.getfield 43, 3) := by decide +kernel
theorem dX0_hasSieve_9 : decode cX0_hasSieve 9 = .ok (.if_icmp .ge 7, 3) := by decide +kernel
theorem dX0_hasSieve_12 : decode cX0_hasSieve 12 = .ok (.iconst 1, 1) := by decide +kernel
theorem dX0_hasSieve_13 : decode cX0_hasSieve 13 = .ok (.goto 4, 3) := by decide +kernel
theorem dX0_hasSieve_16 : decode cX0_hasSieve 16 = .ok (.iconst 0, 1) := by decide +kernel
theorem dX0_hasSieve_17 : decode cX0_hasSieve 17 = .ok (.ireturn, 1) := by decide +kernel
theorem dX0_hasHeap_0 : decode cX0_hasHeap 0 = .ok (.iload_n 1, 1) := by decide +kernel
theorem dX0_hasHeap_1 : decode cX0_hasHeap 1 = .ok (.ifCond .lt 15, 3) := by decide +kernel
theorem dX0_hasHeap_4 : decode cX0_hasHeap 4 = .ok (.iload_n 1, 1) := by decide +kernel
theorem dX0_hasHeap_5 : decode cX0_hasHeap 5 = .ok (.aload_n 0, 1) := by decide +kernel
theorem dX0_hasHeap_6 : decode cX0_hasHeap 6 = .ok (.getfield 46, 3) := by decide +kernel
theorem dX0_hasHeap_9 : decode cX0_hasHeap 9 = .ok (.if_icmp .gt 7, 3) := by decide +kernel
theorem dX0_hasHeap_12 : decode cX0_hasHeap 12 = .ok (.iconst 1, 1) := by decide +kernel
theorem dX0_hasHeap_13 : decode cX0_hasHeap 13 = .ok (.goto 4, 3) := by decide +kernel
theorem dX0_hasHeap_16 : decode cX0_hasHeap 16 = .ok (.iconst 0, 1) := by decide +kernel
theorem dX0_hasHeap_17 : decode cX0_hasHeap 17 = .ok (.ireturn, 1) := by decide +kernel
theorem dX0_isInRow_0 : decode cX0_isInRow 0 = .ok (.iconst 0, 1) := by decide +kernel
theorem dX0_isInRow_1 : decode cX0_isInRow 1 = .ok (.istore_n 2, 1) := by decide +kernel
theorem dX0_isInRow_2 : decode cX0_isInRow 2 = .ok (.iload_n 2, 1) := by decide +kernel
theorem dX0_isInRow_3 : decode cX0_isInRow 3 = .ok (.aload_n 0, 1) := by decide +kernel
theorem dX0_isInRow_4 : decode cX0_isInRow 4 = .ok (.getfield 46, 3) := by decide +kernel
theorem dX0_isInRow_7 : decode cX0_isInRow 7 = .ok (.if_icmp .ge 23, 3) := by decide +kernel
theorem dX0_isInRow_10 : decode cX0_isInRow 10 = .ok (.aload_n 0, 1) := by decide +kernel
theorem dX0_isInRow_11 : decode cX0_isInRow 11 = .ok (.getfield 33, 3) := by decide +kernel
theorem dX0_isInRow_14 : decode cX0_isInRow 14 = .ok (.iload_n 2, 1) := by decide +kernel
theorem dX0_isInRow_15 : decode cX0_isInRow 15 = .ok (.invokestatic 49, 3) := by decide +kernel
theorem dX0_isInRow_18 : decode cX0_isInRow 18 = .ok (.iload_n 1, 1) := by decide +kernel
theorem dX0_isInRow_19 : decode cX0_isInRow 19 = .ok (.if_icmp .ne 5, 3) := by decide +kernel
theorem dX0_isInRow_22 : decode cX0_isInRow 22 = .ok (.iconst 1, 1) := by decide +kernel
theorem dX0_isInRow_23 : decode cX0_isInRow 23 = .ok (.ireturn, 1) := by decide +kernel
theorem dX0_isInRow_24 : decode cX0_isInRow 24 = .ok (.iinc 2 1, 3) := by decide +kernel
theorem dX0_isInRow_27 : decode cX0_isInRow 27 = .ok (.goto (-25), 3) := by decide +kernel
theorem dX0_isInRow_30 : decode cX0_isInRow 30 = .ok (.iconst 0, 1) := by decide +kernel
theorem dX0_isInRow_31 : decode cX0_isInRow 31 = .ok (.ireturn, 1) := by decide +kernel
theorem dX0_addGrain_0 : decode cX0_addGrain 0 = .ok (.aload_n 0, 1) := by decide +kernel
theorem dX0_addGrain_1 : decode cX0_addGrain 1 = .ok (.getfield 9, 3) := by decide +kernel
theorem dX0_addGrain_4 : decode cX0_addGrain 4 = .ok (.aload_n 0, 1) := by decide +kernel
theorem dX0_addGrain_5 : decode cX0_addGrain 5 = .ok (.getfield 39, 3) := by decide +kernel
theorem dX0_addGrain_8 : decode cX0_addGrain 8 = .ok (.iload_n 1, 1) := by decide +kernel
theorem dX0_addGrain_9 : decode cX0_addGrain 9 = .ok (.invokestatic 53, 3) := by decide +kernel
theorem dX0_addGrain_12 : decode cX0_addGrain 12 = .ok (.aload_n 0, 1) := by decide +kernel
theorem dX0_addGrain_13 : decode cX0_addGrain 13 = .ok (.getfield 15, 3) := by decide +kernel
theorem dX0_addGrain_16 : decode cX0_addGrain 16 = .ok (.aload_n 0, 1) := by decide +kernel
theorem dX0_addGrain_17 : decode cX0_addGrain 17 = .ok (.getfield 39, 3) := by decide +kernel
theorem dX0_addGrain_20 : decode cX0_addGrain 20 = .ok (.iload_n 2, 1) := by decide +kernel
theorem dX0_addGrain_21 : decode cX0_addGrain 21 = .ok (.invokestatic 53, 3) := by decide +kernel
theorem dX0_addGrain_24 : decode cX0_addGrain 24 = .ok (.aload_n 0, 1) := by decide +kernel
theorem dX0_addGrain_25 : decode cX0_addGrain 25 = .ok (.getfield 18, 3) := by decide +kernel
theorem dX0_addGrain_28 : decode cX0_addGrain 28 = .ok (.aload_n 0, 1) := by decide +kernel
theorem dX0_addGrain_29 : decode cX0_addGrain 29 = .ok (.getfield 39, 3) := by decide +kernel
theorem dX0_addGrain_32 : decode cX0_addGrain 32 = .ok (.iload_n 3, 1) := by decide +kernel
theorem dX0_addGrain_33 : decode cX0_addGrain 33 = .ok (.invokestatic 53, 3) := by decide +kernel
theorem dX0_addGrain_36 : decode cX0_addGrain 36 = .ok (.aload_n 0, 1) := by decide +kernel
theorem dX0_addGrain_37 : decode cX0_addGrain 37 = .ok (.dup, 1) := by decide +kernel
theorem dX0_addGrain_38 : decode cX0_addGrain 38 = .ok (.getfield 39, 3) := by decide +kernel
theorem dX0_addGrain_41 : decode cX0_addGrain 41 = .ok (.iconst 1, 1) := by decide +kernel
theorem dX0_addGrain_42 : decode cX0_addGrain 42 = .ok (.iadd, 1) := by decide +kernel
theorem dX0_addGrain_43 : decode cX0_addGrain 43 = .ok (.putfield 39, 3) := by decide +kernel
theorem dX0_addGrain_46 : decode cX0_addGrain 46 = .ok (.aload_n 0, 1) := by decide +kernel
theorem dX0_addGrain_47 : decode cX0_addGrain 47 = .ok (.getfield 39, 3) := by decide +kernel
theorem dX0_addGrain_50 : decode cX0_addGrain 50 = .ok (.iconst 1, 1) := by decide +kernel
theorem dX0_addGrain_51 : decode cX0_addGrain 51 = .ok (.isub, 1) := by decide +kernel
theorem dX0_addGrain_52 : decode cX0_addGrain 52 = .ok (.ireturn, 1) := by decide +kernel
theorem dX0_addSieve_0 : decode cX0_addSieve 0 = .ok (.aload_n 0, 1) := by decide +kernel
theorem dX0_addSieve_1 : decode cX0_addSieve 1 = .ok (.getfield 21, 3) := by decide +kernel
theorem dX0_addSieve_4 : decode cX0_addSieve 4 = .ok (.aload_n 0, 1) := by decide +kernel
theorem dX0_addSieve_5 : decode cX0_addSieve 5 = .ok (.getfield 43, 3) := by decide +kernel
theorem dX0_addSieve_8 : decode cX0_addSieve 8 = .ok (.iload_n 1, 1) := by decide +kernel
theorem dX0_addSieve_9 : decode cX0_addSieve 9 = .ok (.invokestatic 53, 3) := by decide +kernel
theorem dX0_addSieve_12 : decode cX0_addSieve 12 = .ok (.aload_n 0, 1) := by decide +kernel
theorem dX0_addSieve_13 : decode cX0_addSieve 13 = .ok (.getfield 24, 3) := by decide +kernel
theorem dX0_addSieve_16 : decode cX0_addSieve 16 = .ok (.aload_n 0, 1) := by decide +kernel
theorem dX0_addSieve_17 : decode cX0_addSieve 17 = .ok (.getfield 43, 3) := by decide +kernel
theorem dX0_addSieve_20 : decode cX0_addSieve 20 = .ok (.iload_n 2, 1) := by decide +kernel
theorem dX0_addSieve_21 : decode cX0_addSieve 21 = .ok (.invokestatic 53, 3) := by decide +kernel
theorem dX0_addSieve_24 : decode cX0_addSieve 24 = .ok (.aload_n 0, 1) := by decide +kernel
theorem dX0_addSieve_25 : decode cX0_addSieve 25 = .ok (.getfield 27, 3) := by decide +kernel
theorem dX0_addSieve_28 : decode cX0_addSieve 28 = .ok (.aload_n 0, 1) := by decide +kernel
theorem dX0_addSieve_29 : decode cX0_addSieve 29 = .ok (.getfield 43, 3) := by decide +kernel
theorem dX0_addSieve_32 : decode cX0_addSieve 32 = .ok (.iload_n 3, 1) := by decide +kernel
theorem dX0_addSieve_33 : decode cX0_addSieve 33 = .ok (.invokestatic 53, 3) := by decide +kernel
theorem dX0_addSieve_36 : decode cX0_addSieve 36 = .ok (.aload_n 0, 1) := by decide +kernel
theorem dX0_addSieve_37 : decode cX0_addSieve 37 = .ok (.getfield 30, 3) := by decide +kernel
theorem dX0_addSieve_40 : decode cX0_addSieve 40 = .ok (.aload_n 0, 1) := by decide +kernel
theorem dX0_addSieve_41 : decode cX0_addSieve 41 = .ok (.getfield 43, 3) := by decide +kernel
theorem dX0_addSieve_44 : decode cX0_addSieve 44 = .ok (.iload 4, 2) := by decide +kernel
theorem dX0_addSieve_46 : decode cX0_addSieve 46 = .ok (.invokestatic 53, 3) := by decide +kernel
theorem dX0_addSieve_49 : decode cX0_addSieve 49 = .ok (.aload_n 0, 1) := by decide +kernel
theorem dX0_addSieve_50 : decode cX0_addSieve 50 = .ok (.dup, 1) := by decide +kernel
theorem dX0_addSieve_51 : decode cX0_addSieve 51 = .ok (.getfield 43, 3) := by decide +kernel
theorem dX0_addSieve_54 : decode cX0_addSieve 54 = .ok (.iconst 1, 1) := by decide +kernel
theorem dX0_addSieve_55 : decode cX0_addSieve 55 = .ok (.iadd, 1) := by decide +kernel
theorem dX0_addSieve_56 : decode cX0_addSieve 56 = .ok (.putfield 43, 3) := by decide +kernel
theorem dX0_addSieve_59 : decode cX0_addSieve 59 = .ok (.aload_n 0, 1) := by decide +kernel
theorem dX0_addSieve_60 : decode cX0_addSieve 60 = .ok (.getfield 43, 3) := by decide +kernel
theorem dX0_addSieve_63 : decode cX0_addSieve 63 = .ok (.iconst 1, 1) := by decide +kernel
theorem dX0_addSieve_64 : decode cX0_addSieve 64 = .ok (.isub, 1) := by decide +kernel
theorem dX0_addSieve_65 : decode cX0_addSieve 65 = .ok (.ireturn, 1) := by decide +kernel
theorem dX0_addPlace_0 : decode cX0_addPlace 0 = .ok (.aload_n 0, 1) := by decide +kernel
theorem dX0_addPlace_1 : decode cX0_addPlace 1 = .ok (.getfield 33, 3) := by decide +kernel
theorem dX0_addPlace_4 : decode cX0_addPlace 4 = .ok (.aload_n 0, 1) := by decide +kernel
theorem dX0_addPlace_5 : decode cX0_addPlace 5 = .ok (.getfield 46, 3) := by decide +kernel
theorem dX0_addPlace_8 : decode cX0_addPlace 8 = .ok (.iload_n 1, 1) := by decide +kernel
theorem dX0_addPlace_9 : decode cX0_addPlace 9 = .ok (.invokestatic 53, 3) := by decide +kernel
theorem dX0_addPlace_12 : decode cX0_addPlace 12 = .ok (.aload_n 0, 1) := by decide +kernel
theorem dX0_addPlace_13 : decode cX0_addPlace 13 = .ok (.dup, 1) := by decide +kernel
theorem dX0_addPlace_14 : decode cX0_addPlace 14 = .ok (.getfield 46, 3) := by decide +kernel
theorem dX0_addPlace_17 : decode cX0_addPlace 17 = .ok (.iconst 1, 1) := by decide +kernel
theorem dX0_addPlace_18 : decode cX0_addPlace 18 = .ok (.iadd, 1) := by decide +kernel
theorem dX0_addPlace_19 : decode cX0_addPlace 19 = .ok (.putfield 46, 3) := by decide +kernel
theorem dX0_addPlace_22 : decode cX0_addPlace 22 = .ok (.return_, 1) := by decide +kernel
theorem dX0_takeGrains_0 : decode cX0_takeGrains 0 = .ok (.aload_n 0, 1) := by decide +kernel
theorem dX0_takeGrains_1 : decode cX0_takeGrains 1 = .ok (.aload_n 1, 1) := by decide +kernel
theorem dX0_takeGrains_2 : decode cX0_takeGrains 2 = .ok (.getfield 39, 3) := by decide +kernel
theorem dX0_takeGrains_5 : decode cX0_takeGrains 5 = .ok (.putfield 39, 3) := by decide +kernel
theorem dX0_takeGrains_8 : decode cX0_takeGrains 8 = .ok (.aload_n 1, 1) := by decide +kernel
theorem dX0_takeGrains_9 : decode cX0_takeGrains 9 = .ok (.getfield 9, 3) := by decide +kernel
theorem dX0_takeGrains_12 : decode cX0_takeGrains 12 = .ok (.aload_n 0, 1) := by decide +kernel
theorem dX0_takeGrains_13 : decode cX0_takeGrains 13 = .ok (.getfield 9, 3) := by decide +kernel
theorem dX0_takeGrains_16 : decode cX0_takeGrains 16 = .ok (.invokestatic 57, 3) := by decide +kernel
theorem dX0_takeGrains_19 : decode cX0_takeGrains 19 = .ok (.aload_n 1, 1) := by decide +kernel
theorem dX0_takeGrains_20 : decode cX0_takeGrains 20 = .ok (.getfield 15, 3) := by decide +kernel
theorem dX0_takeGrains_23 : decode cX0_takeGrains 23 = .ok (.aload_n 0, 1) := by decide +kernel
theorem dX0_takeGrains_24 : decode cX0_takeGrains 24 = .ok (.getfield 15, 3) := by decide +kernel
theorem dX0_takeGrains_27 : decode cX0_takeGrains 27 = .ok (.invokestatic 57, 3) := by decide +kernel
theorem dX0_takeGrains_30 : decode cX0_takeGrains 30 = .ok (.aload_n 1, 1) := by decide +kernel
theorem dX0_takeGrains_31 : decode cX0_takeGrains 31 = .ok (.getfield 18, 3) := by decide +kernel
theorem dX0_takeGrains_34 : decode cX0_takeGrains 34 = .ok (.aload_n 0, 1) := by decide +kernel
theorem dX0_takeGrains_35 : decode cX0_takeGrains 35 = .ok (.getfield 18, 3) := by decide +kernel
theorem dX0_takeGrains_38 : decode cX0_takeGrains 38 = .ok (.invokestatic 57, 3) := by decide +kernel
theorem dX0_takeGrains_41 : decode cX0_takeGrains 41 = .ok (.return_, 1) := by decide +kernel
theorem dX0_takeSieves_0 : decode cX0_takeSieves 0 = .ok (.aload_n 0, 1) := by decide +kernel
theorem dX0_takeSieves_1 : decode cX0_takeSieves 1 = .ok (.aload_n 1, 1) := by decide +kernel
theorem dX0_takeSieves_2 : decode cX0_takeSieves 2 = .ok (.getfield 43, 3) := by decide +kernel
theorem dX0_takeSieves_5 : decode cX0_takeSieves 5 = .ok (.putfield 43, 3) := by decide +kernel
theorem dX0_takeSieves_8 : decode cX0_takeSieves 8 = .ok (.aload_n 1, 1) := by decide +kernel
theorem dX0_takeSieves_9 : decode cX0_takeSieves 9 = .ok (.getfield 21, 3) := by decide +kernel
theorem dX0_takeSieves_12 : decode cX0_takeSieves 12 = .ok (.aload_n 0, 1) := by decide +kernel
theorem dX0_takeSieves_13 : decode cX0_takeSieves 13 = .ok (.getfield 21, 3) := by decide +kernel
theorem dX0_takeSieves_16 : decode cX0_takeSieves 16 = .ok (.invokestatic 57, 3) := by decide +kernel
theorem dX0_takeSieves_19 : decode cX0_takeSieves 19 = .ok (.aload_n 1, 1) := by decide +kernel
theorem dX0_takeSieves_20 : decode cX0_takeSieves 20 = .ok (.getfield 24, 3) := by decide +kernel
theorem dX0_takeSieves_23 : decode cX0_takeSieves 23 = .ok (.aload_n 0, 1) := by decide +kernel
theorem dX0_takeSieves_24 : decode cX0_takeSieves 24 = .ok (.getfield 24, 3) := by decide +kernel
theorem dX0_takeSieves_27 : decode cX0_takeSieves 27 = .ok (.invokestatic 57, 3) := by decide +kernel
theorem dX0_takeSieves_30 : decode cX0_takeSieves 30 = .ok (.aload_n 1, 1) := by decide +kernel
theorem dX0_takeSieves_31 : decode cX0_takeSieves 31 = .ok (.getfield 27, 3) := by decide +kernel
theorem dX0_takeSieves_34 : decode cX0_takeSieves 34 = .ok (.aload_n 0, 1) := by decide +kernel
theorem dX0_takeSieves_35 : decode cX0_takeSieves 35 = .ok (.getfield 27, 3) := by decide +kernel
theorem dX0_takeSieves_38 : decode cX0_takeSieves 38 = .ok (.invokestatic 57, 3) := by decide +kernel
theorem dX0_takeSieves_41 : decode cX0_takeSieves 41 = .ok (.aload_n 1, 1) := by decide +kernel
theorem dX0_takeSieves_42 : decode cX0_takeSieves 42 = .ok (.getfield 30, 3) := by decide +kernel
theorem dX0_takeSieves_45 : decode cX0_takeSieves 45 = .ok (.aload_n 0, 1) := by decide +kernel
theorem dX0_takeSieves_46 : decode cX0_takeSieves 46 = .ok (.getfield 30, 3) := by decide +kernel
theorem dX0_takeSieves_49 : decode cX0_takeSieves 49 = .ok (.invokestatic 57, 3) := by decide +kernel
theorem dX0_takeSieves_52 : decode cX0_takeSieves 52 = .ok (.return_, 1) := by decide +kernel
theorem dX0_takeRow_0 : decode cX0_takeRow 0 = .ok (.aload_n 0, 1) := by decide +kernel
theorem dX0_takeRow_1 : decode cX0_takeRow 1 = .ok (.aload_n 1, 1) := by decide +kernel
theorem dX0_takeRow_2 : decode cX0_takeRow 2 = .ok (.getfield 46, 3) := by decide +kernel
theorem dX0_takeRow_5 : decode cX0_takeRow 5 = .ok (.putfield 46, 3) := by decide +kernel
theorem dX0_takeRow_8 : decode cX0_takeRow 8 = .ok (.aload_n 1, 1) := by decide +kernel
theorem dX0_takeRow_9 : decode cX0_takeRow 9 = .ok (.getfield 33, 3) := by decide +kernel
theorem dX0_takeRow_12 : decode cX0_takeRow 12 = .ok (.aload_n 0, 1) := by decide +kernel
theorem dX0_takeRow_13 : decode cX0_takeRow 13 = .ok (.getfield 33, 3) := by decide +kernel
theorem dX0_takeRow_16 : decode cX0_takeRow 16 = .ok (.invokestatic 57, 3) := by decide +kernel
theorem dX0_takeRow_19 : decode cX0_takeRow 19 = .ok (.return_, 1) := by decide +kernel
theorem dX0_takeAll_0 : decode cX0_takeAll 0 = .ok (.aload_n 0, 1) := by decide +kernel
theorem dX0_takeAll_1 : decode cX0_takeAll 1 = .ok (.aload_n 1, 1) := by decide +kernel
theorem dX0_takeAll_2 : decode cX0_takeAll 2 = .ok (.invokevirtual 61, 3) := by decide +kernel
theorem dX0_takeAll_5 : decode cX0_takeAll 5 = .ok (.aload_n 0, 1) := by decide +kernel
theorem dX0_takeAll_6 : decode cX0_takeAll 6 = .ok (.aload_n 1, 1) := by decide +kernel
theorem dX0_takeAll_7 : decode cX0_takeAll 7 = .ok (.invokevirtual 65, 3) := by decide +kernel
theorem dX0_takeAll_10 : decode cX0_takeAll 10 = .ok (.aload_n 0, 1) := by decide +kernel
theorem dX0_takeAll_11 : decode cX0_takeAll 11 = .ok (.aload_n 1, 1) := by decide +kernel
theorem dX0_takeAll_12 : decode cX0_takeAll 12 = .ok (.invokevirtual 68, 3) := by decide +kernel
theorem dX0_takeAll_15 : decode cX0_takeAll 15 = .ok (.aload_n 0, 1) := by decide +kernel
theorem dX0_takeAll_16 : decode cX0_takeAll 16 = .ok (.aload_n 1, 1) := by decide +kernel
theorem dX0_takeAll_17 : decode cX0_takeAll 17 = .ok (.getfield 71, 3) := by decide +kernel
theorem dX0_takeAll_20 : decode cX0_takeAll 20 = .ok (.putfield 71, 3) := by decide +kernel
theorem dX0_takeAll_23 : decode cX0_takeAll 23 = .ok (.return_, 1) := by decide +kernel
theorem dX0_load_0 : decode cX0_load 0 = .ok (.iconst 0, 1) := by decide +kernel
theorem dX0_load_1 : decode cX0_load 1 = .ok (.istore_n 1, 1) := by decide +kernel
theorem dX0_load_2 : decode cX0_load 2 = .ok (.iconst 0, 1) := by decide +kernel
theorem dX0_load_3 : decode cX0_load 3 = .ok (.istore_n 2, 1) := by decide +kernel
theorem dX0_load_4 : decode cX0_load 4 = .ok (.iload_n 2, 1) := by decide +kernel
theorem dX0_load_5 : decode cX0_load 5 = .ok (.aload_n 0, 1) := by decide +kernel
theorem dX0_load_6 : decode cX0_load 6 = .ok (.getfield 39, 3) := by decide +kernel
theorem dX0_load_9 : decode cX0_load 9 = .ok (.if_icmp .ge 26, 3) := by decide +kernel
theorem dX0_load_12 : decode cX0_load 12 = .ok (.aload_n 0, 1) := by decide +kernel
theorem dX0_load_13 : decode cX0_load 13 = .ok (.getfield 15, 3) := by decide +kernel
theorem dX0_load_16 : decode cX0_load 16 = .ok (.iload_n 2, 1) := by decide +kernel
theorem dX0_load_17 : decode cX0_load 17 = .ok (.invokestatic 49, 3) := by decide +kernel
theorem dX0_load_20 : decode cX0_load 20 = .ok (.ifCond .le 9, 3) := by decide +kernel
theorem dX0_load_23 : decode cX0_load 23 = .ok (.iload_n 1, 1) := by decide +kernel
theorem dX0_load_24 : decode cX0_load 24 = .ok (.iconst 1, 1) := by decide +kernel
theorem dX0_load_25 : decode cX0_load 25 = .ok (.iload_n 2, 1) := by decide +kernel
theorem dX0_load_26 : decode cX0_load 26 = .ok (.ishl, 1) := by decide +kernel
theorem dX0_load_27 : decode cX0_load 27 = .ok (.ior, 1) := by decide +kernel
theorem dX0_load_28 : decode cX0_load 28 = .ok (.istore_n 1, 1) := by decide +kernel
theorem dX0_load_29 : decode cX0_load 29 = .ok (.iinc 2 1, 3) := by decide +kernel
theorem dX0_load_32 : decode cX0_load 32 = .ok (.goto (-28), 3) := by decide +kernel
theorem dX0_load_35 : decode cX0_load 35 = .ok (.iload_n 1, 1) := by decide +kernel
theorem dX0_load_36 : decode cX0_load 36 = .ok (.ireturn, 1) := by decide +kernel
theorem dX0_amountOf_0 : decode cX0_amountOf 0 = .ok (.iconst 0, 1) := by decide +kernel
theorem dX0_amountOf_1 : decode cX0_amountOf 1 = .ok (.istore_n 2, 1) := by decide +kernel
theorem dX0_amountOf_2 : decode cX0_amountOf 2 = .ok (.iconst 0, 1) := by decide +kernel
theorem dX0_amountOf_3 : decode cX0_amountOf 3 = .ok (.istore_n 3, 1) := by decide +kernel
theorem dX0_amountOf_4 : decode cX0_amountOf 4 = .ok (.iload_n 3, 1) := by decide +kernel
theorem dX0_amountOf_5 : decode cX0_amountOf 5 = .ok (.aload_n 0, 1) := by decide +kernel
theorem dX0_amountOf_6 : decode cX0_amountOf 6 = .ok (.getfield 39, 3) := by decide +kernel
theorem dX0_amountOf_9 : decode cX0_amountOf 9 = .ok (.if_icmp .ge 28, 3) := by decide +kernel
theorem dX0_amountOf_12 : decode cX0_amountOf 12 = .ok (.iload_n 1, 1) := by decide +kernel
theorem dX0_amountOf_13 : decode cX0_amountOf 13 = .ok (.iload_n 3, 1) := by decide +kernel
theorem dX0_amountOf_14 : decode cX0_amountOf 14 = .ok (.ishr, 1) := by decide +kernel
theorem dX0_amountOf_15 : decode cX0_amountOf 15 = .ok (.iconst 1, 1) := by decide +kernel
theorem dX0_amountOf_16 : decode cX0_amountOf 16 = .ok (.iand, 1) := by decide +kernel
theorem dX0_amountOf_17 : decode cX0_amountOf 17 = .ok (.ifCond .eq 14, 3) := by decide +kernel
theorem dX0_amountOf_20 : decode cX0_amountOf 20 = .ok (.iload_n 2, 1) := by decide +kernel
theorem dX0_amountOf_21 : decode cX0_amountOf 21 = .ok (.aload_n 0, 1) := by decide +kernel
theorem dX0_amountOf_22 : decode cX0_amountOf 22 = .ok (.getfield 15, 3) := by decide +kernel
theorem dX0_amountOf_25 : decode cX0_amountOf 25 = .ok (.iload_n 3, 1) := by decide +kernel
theorem dX0_amountOf_26 : decode cX0_amountOf 26 = .ok (.invokestatic 49, 3) := by decide +kernel
theorem dX0_amountOf_29 : decode cX0_amountOf 29 = .ok (.iadd, 1) := by decide +kernel
theorem dX0_amountOf_30 : decode cX0_amountOf 30 = .ok (.istore_n 2, 1) := by decide +kernel
theorem dX0_amountOf_31 : decode cX0_amountOf 31 = .ok (.iinc 3 1, 3) := by decide +kernel
theorem dX0_amountOf_34 : decode cX0_amountOf 34 = .ok (.goto (-30), 3) := by decide +kernel
theorem dX0_amountOf_37 : decode cX0_amountOf 37 = .ok (.iload_n 2, 1) := by decide +kernel
theorem dX0_amountOf_38 : decode cX0_amountOf 38 = .ok (.ireturn, 1) := by decide +kernel
theorem dX0_worth_0 : decode cX0_worth 0 = .ok (.bipush 99, 2) := by decide +kernel
theorem dX0_worth_2 : decode cX0_worth 2 = .ok (.istore_n 2, 1) := by decide +kernel
theorem dX0_worth_3 : decode cX0_worth 3 = .ok (.iconst 0, 1) := by decide +kernel
theorem dX0_worth_4 : decode cX0_worth 4 = .ok (.istore_n 3, 1) := by decide +kernel
theorem dX0_worth_5 : decode cX0_worth 5 = .ok (.iload_n 3, 1) := by decide +kernel
theorem dX0_worth_6 : decode cX0_worth 6 = .ok (.aload_n 0, 1) := by decide +kernel
theorem dX0_worth_7 : decode cX0_worth 7 = .ok (.getfield 39, 3) := by decide +kernel
theorem dX0_worth_10 : decode cX0_worth 10 = .ok (.if_icmp .ge 30, 3) := by decide +kernel
theorem dX0_worth_13 : decode cX0_worth 13 = .ok (.iload_n 1, 1) := by decide +kernel
theorem dX0_worth_14 : decode cX0_worth 14 = .ok (.iload_n 3, 1) := by decide +kernel
theorem dX0_worth_15 : decode cX0_worth 15 = .ok (.ishr, 1) := by decide +kernel
theorem dX0_worth_16 : decode cX0_worth 16 = .ok (.iconst 1, 1) := by decide +kernel
theorem dX0_worth_17 : decode cX0_worth 17 = .ok (.iand, 1) := by decide +kernel
theorem dX0_worth_18 : decode cX0_worth 18 = .ok (.ifCond .eq 16, 3) := by decide +kernel
theorem dX0_worth_21 : decode cX0_worth 21 = .ok (.iload_n 2, 1) := by decide +kernel
theorem dX0_worth_22 : decode cX0_worth 22 = .ok (.aload_n 0, 1) := by decide +kernel
theorem dX0_worth_23 : decode cX0_worth 23 = .ok (.getfield 18, 3) := by decide +kernel
theorem dX0_worth_26 : decode cX0_worth 26 = .ok (.iload_n 3, 1) := by decide +kernel
theorem dX0_worth_27 : decode cX0_worth 27 = .ok (.invokestatic 49, 3) := by decide +kernel
theorem dX0_worth_30 : decode cX0_worth 30 = .ok (.invokestatic 74, 3) := by decide +kernel
theorem dX0_worth_33 : decode cX0_worth 33 = .ok (.istore_n 2, 1) := by decide +kernel
theorem dX0_worth_34 : decode cX0_worth 34 = .ok (.iinc 3 1, 3) := by decide +kernel
theorem dX0_worth_37 : decode cX0_worth 37 = .ok (.goto (-32), 3) := by decide +kernel
theorem dX0_worth_40 : decode cX0_worth 40 = .ok (.aload_n 0, 1) := by decide +kernel
theorem dX0_worth_41 : decode cX0_worth 41 = .ok (.iload_n 1, 1) := by decide +kernel
theorem dX0_worth_42 : decode cX0_worth 42 = .ok (.invokevirtual 80, 3) := by decide +kernel
theorem dX0_worth_45 : decode cX0_worth 45 = .ok (.iload_n 2, 1) := by decide +kernel
theorem dX0_worth_46 : decode cX0_worth 46 = .ok (.imul, 1) := by decide +kernel
theorem dX0_worth_47 : decode cX0_worth 47 = .ok (.ireturn, 1) := by decide +kernel
theorem dX0_letsFall_0 : decode cX0_letsFall 0 = .ok (.aload_n 0, 1) := by decide +kernel
theorem dX0_letsFall_1 : decode cX0_letsFall 1 = .ok (.getfield 21, 3) := by decide +kernel
theorem dX0_letsFall_4 : decode cX0_letsFall 4 = .ok (.iload_n 1, 1) := by decide +kernel
theorem dX0_letsFall_5 : decode cX0_letsFall 5 = .ok (.invokestatic 49, 3) := by decide +kernel
theorem dX0_letsFall_8 : decode cX0_letsFall 8 = .ok (.iconst 3, 1) := by decide +kernel
theorem dX0_letsFall_9 : decode cX0_letsFall 9 = .ok (.if_icmp .eq 15, 3) := by decide +kernel
theorem dX0_letsFall_12 : decode cX0_letsFall 12 = .ok (.iload_n 2, 1) := by decide +kernel
theorem dX0_letsFall_13 : decode cX0_letsFall 13 = .ok (.aload_n 0, 1) := by decide +kernel
theorem dX0_letsFall_14 : decode cX0_letsFall 14 = .ok (.getfield 24, 3) := by decide +kernel
theorem dX0_letsFall_17 : decode cX0_letsFall 17 = .ok (.iload_n 1, 1) := by decide +kernel
theorem dX0_letsFall_18 : decode cX0_letsFall 18 = .ok (.invokestatic 49, 3) := by decide +kernel
theorem dX0_letsFall_21 : decode cX0_letsFall 21 = .ok (.if_icmp .gt 7, 3) := by decide +kernel
theorem dX0_letsFall_24 : decode cX0_letsFall 24 = .ok (.iconst 1, 1) := by decide +kernel
theorem dX0_letsFall_25 : decode cX0_letsFall 25 = .ok (.goto 4, 3) := by decide +kernel
theorem dX0_letsFall_28 : decode cX0_letsFall 28 = .ok (.iconst 0, 1) := by decide +kernel
theorem dX0_letsFall_29 : decode cX0_letsFall 29 = .ok (.ireturn, 1) := by decide +kernel
theorem dX0_tooBig_0 : decode cX0_tooBig 0 = .ok (.iconst 0, 1) := by decide +kernel
theorem dX0_tooBig_1 : decode cX0_tooBig 1 = .ok (.istore_n 3, 1) := by decide +kernel
theorem dX0_tooBig_2 : decode cX0_tooBig 2 = .ok (.iconst 0, 1) := by decide +kernel
theorem dX0_tooBig_3 : decode cX0_tooBig 3 = .ok (.istore 4, 2) := by decide +kernel
theorem dX0_tooBig_5 : decode cX0_tooBig 5 = .ok (.iload 4, 2) := by decide +kernel
theorem dX0_tooBig_7 : decode cX0_tooBig 7 = .ok (.aload_n 0, 1) := by decide +kernel
theorem dX0_tooBig_8 : decode cX0_tooBig 8 = .ok (.getfield 39, 3) := by decide +kernel
theorem dX0_tooBig_11 : decode cX0_tooBig 11 = .ok (.if_icmp .ge 42, 3) := by decide +kernel
theorem dX0_tooBig_14 : decode cX0_tooBig 14 = .ok (.iload_n 2, 1) := by decide +kernel
theorem dX0_tooBig_15 : decode cX0_tooBig 15 = .ok (.iload 4, 2) := by decide +kernel
theorem dX0_tooBig_17 : decode cX0_tooBig 17 = .ok (.ishr, 1) := by decide +kernel
theorem dX0_tooBig_18 : decode cX0_tooBig 18 = .ok (.iconst 1, 1) := by decide +kernel
theorem dX0_tooBig_19 : decode cX0_tooBig 19 = .ok (.iand, 1) := by decide +kernel
theorem dX0_tooBig_20 : decode cX0_tooBig 20 = .ok (.ifCond .eq 27, 3) := by decide +kernel
theorem dX0_tooBig_23 : decode cX0_tooBig 23 = .ok (.aload_n 0, 1) := by decide +kernel
theorem dX0_tooBig_24 : decode cX0_tooBig 24 = .ok (.iload_n 1, 1) := by decide +kernel
theorem dX0_tooBig_25 : decode cX0_tooBig 25 = .ok (.aload_n 0, 1) := by decide +kernel
theorem dX0_tooBig_26 : decode cX0_tooBig 26 = .ok (.getfield 9, 3) := by decide +kernel
theorem dX0_tooBig_29 : decode cX0_tooBig 29 = .ok (.iload 4, 2) := by decide +kernel
theorem dX0_tooBig_31 : decode cX0_tooBig 31 = .ok (.invokestatic 49, 3) := by decide +kernel
theorem dX0_tooBig_34 : decode cX0_tooBig 34 = .ok (.invokevirtual 84, 3) := by decide +kernel
theorem dX0_tooBig_37 : decode cX0_tooBig 37 = .ok (.ifCond .ne 10, 3) := by decide +kernel
theorem dX0_tooBig_40 : decode cX0_tooBig 40 = .ok (.iload_n 3, 1) := by decide +kernel
theorem dX0_tooBig_41 : decode cX0_tooBig 41 = .ok (.iconst 1, 1) := by decide +kernel
theorem dX0_tooBig_42 : decode cX0_tooBig 42 = .ok (.iload 4, 2) := by decide +kernel
theorem dX0_tooBig_44 : decode cX0_tooBig 44 = .ok (.ishl, 1) := by decide +kernel
theorem dX0_tooBig_45 : decode cX0_tooBig 45 = .ok (.ior, 1) := by decide +kernel
theorem dX0_tooBig_46 : decode cX0_tooBig 46 = .ok (.istore_n 3, 1) := by decide +kernel
theorem dX0_tooBig_47 : decode cX0_tooBig 47 = .ok (.iinc 4 1, 3) := by decide +kernel
theorem dX0_tooBig_50 : decode cX0_tooBig 50 = .ok (.goto (-45), 3) := by decide +kernel
theorem dX0_tooBig_53 : decode cX0_tooBig 53 = .ok (.iload_n 3, 1) := by decide +kernel
theorem dX0_tooBig_54 : decode cX0_tooBig 54 = .ok (.ireturn, 1) := by decide +kernel
theorem dX0_isTooMuch_0 : decode cX0_isTooMuch 0 = .ok (.aload_n 0, 1) := by decide +kernel
theorem dX0_isTooMuch_1 : decode cX0_isTooMuch 1 = .ok (.iload_n 2, 1) := by decide +kernel
theorem dX0_isTooMuch_2 : decode cX0_isTooMuch 2 = .ok (.invokevirtual 80, 3) := by decide +kernel
theorem dX0_isTooMuch_5 : decode cX0_isTooMuch 5 = .ok (.aload_n 0, 1) := by decide +kernel
theorem dX0_isTooMuch_6 : decode cX0_isTooMuch 6 = .ok (.getfield 27, 3) := by decide +kernel
theorem dX0_isTooMuch_9 : decode cX0_isTooMuch 9 = .ok (.iload_n 1, 1) := by decide +kernel
theorem dX0_isTooMuch_10 : decode cX0_isTooMuch 10 = .ok (.invokestatic 49, 3) := by decide +kernel
theorem dX0_isTooMuch_13 : decode cX0_isTooMuch 13 = .ok (.if_icmp .le 7, 3) := by decide +kernel
theorem dX0_isTooMuch_16 : decode cX0_isTooMuch 16 = .ok (.iconst 1, 1) := by decide +kernel
theorem dX0_isTooMuch_17 : decode cX0_isTooMuch 17 = .ok (.goto 4, 3) := by decide +kernel
theorem dX0_isTooMuch_20 : decode cX0_isTooMuch 20 = .ok (.iconst 0, 1) := by decide +kernel
theorem dX0_isTooMuch_21 : decode cX0_isTooMuch 21 = .ok (.ireturn, 1) := by decide +kernel
theorem dX0_falling_0 : decode cX0_falling 0 = .ok (.aload_n 0, 1) := by decide +kernel
theorem dX0_falling_1 : decode cX0_falling 1 = .ok (.iload_n 1, 1) := by decide +kernel
theorem dX0_falling_2 : decode cX0_falling 2 = .ok (.iload_n 2, 1) := by decide +kernel
theorem dX0_falling_3 : decode cX0_falling 3 = .ok (.invokevirtual 88, 3) := by decide +kernel
theorem dX0_falling_6 : decode cX0_falling 6 = .ok (.istore_n 3, 1) := by decide +kernel
theorem dX0_falling_7 : decode cX0_falling 7 = .ok (.aload_n 0, 1) := by decide +kernel
theorem dX0_falling_8 : decode cX0_falling 8 = .ok (.iload_n 1, 1) := by decide +kernel
theorem dX0_falling_9 : decode cX0_falling 9 = .ok (.iload_n 3, 1) := by decide +kernel
theorem dX0_falling_10 : decode cX0_falling 10 = .ok (.invokevirtual 91, 3) := by decide +kernel
theorem dX0_falling_13 : decode cX0_falling 13 = .ok (.ifCond .eq 7, 3) := by decide +kernel
theorem dX0_falling_16 : decode cX0_falling 16 = .ok (.iconst 0, 1) := by decide +kernel
theorem dX0_falling_17 : decode cX0_falling 17 = .ok (.goto 8, 3) := by decide +kernel
theorem dX0_falling_20 : decode cX0_falling 20 = .ok (.iload_n 2, 1) := by decide +kernel
theorem dX0_falling_21 : decode cX0_falling 21 = .ok (.iload_n 3, 1) := by decide +kernel
theorem dX0_falling_22 : decode cX0_falling 22 = .ok (.iconst (-1), 1) := by decide +kernel
theorem dX0_falling_23 : decode cX0_falling 23 = .ok (.ixor, 1) := by decide +kernel
theorem dX0_falling_24 : decode cX0_falling 24 = .ok (.iand, 1) := by decide +kernel
theorem dX0_falling_25 : decode cX0_falling 25 = .ok (.ireturn, 1) := by decide +kernel
theorem dX0_spread_0 : decode cX0_spread 0 = .ok (.aload_n 0, 1) := by decide +kernel
theorem dX0_spread_1 : decode cX0_spread 1 = .ok (.invokevirtual 94, 3) := by decide +kernel
theorem dX0_spread_4 : decode cX0_spread 4 = .ok (.istore_n 1, 1) := by decide +kernel
theorem dX0_spread_5 : decode cX0_spread 5 = .ok (.iconst 0, 1) := by decide +kernel
theorem dX0_spread_6 : decode cX0_spread 6 = .ok (.istore_n 2, 1) := by decide +kernel
theorem dX0_spread_7 : decode cX0_spread 7 = .ok (.iload_n 2, 1) := by decide +kernel
theorem dX0_spread_8 : decode cX0_spread 8 = .ok (.aload_n 0, 1) := by decide +kernel
theorem dX0_spread_9 : decode cX0_spread 9 = .ok (.getfield 46, 3) := by decide +kernel
theorem dX0_spread_12 : decode cX0_spread 12 = .ok (.if_icmp .ge 38, 3) := by decide +kernel
theorem dX0_spread_15 : decode cX0_spread 15 = .ok (.aload_n 0, 1) := by decide +kernel
theorem dX0_spread_16 : decode cX0_spread 16 = .ok (.aload_n 0, 1) := by decide +kernel
theorem dX0_spread_17 : decode cX0_spread 17 = .ok (.getfield 33, 3) := by decide +kernel
theorem dX0_spread_20 : decode cX0_spread 20 = .ok (.iload_n 2, 1) := by decide +kernel
theorem dX0_spread_21 : decode cX0_spread 21 = .ok (.invokestatic 49, 3) := by decide +kernel
theorem dX0_spread_24 : decode cX0_spread 24 = .ok (.iload_n 1, 1) := by decide +kernel
theorem dX0_spread_25 : decode cX0_spread 25 = .ok (.invokevirtual 98, 3) := by decide +kernel
theorem dX0_spread_28 : decode cX0_spread 28 = .ok (.istore_n 3, 1) := by decide +kernel
theorem dX0_spread_29 : decode cX0_spread 29 = .ok (.aload_n 0, 1) := by decide +kernel
theorem dX0_spread_30 : decode cX0_spread 30 = .ok (.getfield 36, 3) := by decide +kernel
theorem dX0_spread_33 : decode cX0_spread 33 = .ok (.iload_n 2, 1) := by decide +kernel
theorem dX0_spread_34 : decode cX0_spread 34 = .ok (.iload_n 1, 1) := by decide +kernel
theorem dX0_spread_35 : decode cX0_spread 35 = .ok (.iload_n 3, 1) := by decide +kernel
theorem dX0_spread_36 : decode cX0_spread 36 = .ok (.iconst (-1), 1) := by decide +kernel
theorem dX0_spread_37 : decode cX0_spread 37 = .ok (.ixor, 1) := by decide +kernel
theorem dX0_spread_38 : decode cX0_spread 38 = .ok (.iand, 1) := by decide +kernel
theorem dX0_spread_39 : decode cX0_spread 39 = .ok (.invokestatic 53, 3) := by decide +kernel
theorem dX0_spread_42 : decode cX0_spread 42 = .ok (.iload_n 3, 1) := by decide +kernel
theorem dX0_spread_43 : decode cX0_spread 43 = .ok (.istore_n 1, 1) := by decide +kernel
theorem dX0_spread_44 : decode cX0_spread 44 = .ok (.iinc 2 1, 3) := by decide +kernel
theorem dX0_spread_47 : decode cX0_spread 47 = .ok (.goto (-40), 3) := by decide +kernel
theorem dX0_spread_50 : decode cX0_spread 50 = .ok (.aload_n 0, 1) := by decide +kernel
theorem dX0_spread_51 : decode cX0_spread 51 = .ok (.getfield 36, 3) := by decide +kernel
theorem dX0_spread_54 : decode cX0_spread 54 = .ok (.aload_n 0, 1) := by decide +kernel
theorem dX0_spread_55 : decode cX0_spread 55 = .ok (.getfield 46, 3) := by decide +kernel
theorem dX0_spread_58 : decode cX0_spread 58 = .ok (.iload_n 1, 1) := by decide +kernel
theorem dX0_spread_59 : decode cX0_spread 59 = .ok (.invokestatic 53, 3) := by decide +kernel
theorem dX0_spread_62 : decode cX0_spread 62 = .ok (.return_, 1) := by decide +kernel
theorem dX0_heapOf_0 : decode cX0_heapOf 0 = .ok (.iconst 0, 1) := by decide +kernel
theorem dX0_heapOf_1 : decode cX0_heapOf 1 = .ok (.istore_n 2, 1) := by decide +kernel
theorem dX0_heapOf_2 : decode cX0_heapOf 2 = .ok (.iload_n 2, 1) := by decide +kernel
theorem dX0_heapOf_3 : decode cX0_heapOf 3 = .ok (.aload_n 0, 1) := by decide +kernel
theorem dX0_heapOf_4 : decode cX0_heapOf 4 = .ok (.getfield 46, 3) := by decide +kernel
theorem dX0_heapOf_7 : decode cX0_heapOf 7 = .ok (.if_icmp .gt 26, 3) := by decide +kernel
theorem dX0_heapOf_10 : decode cX0_heapOf 10 = .ok (.aload_n 0, 1) := by decide +kernel
theorem dX0_heapOf_11 : decode cX0_heapOf 11 = .ok (.getfield 36, 3) := by decide +kernel
theorem dX0_heapOf_14 : decode cX0_heapOf 14 = .ok (.iload_n 2, 1) := by decide +kernel
theorem dX0_heapOf_15 : decode cX0_heapOf 15 = .ok (.invokestatic 49, 3) := by decide +kernel
theorem dX0_heapOf_18 : decode cX0_heapOf 18 = .ok (.iload_n 1, 1) := by decide +kernel
theorem dX0_heapOf_19 : decode cX0_heapOf 19 = .ok (.ishr, 1) := by decide +kernel
theorem dX0_heapOf_20 : decode cX0_heapOf 20 = .ok (.iconst 1, 1) := by decide +kernel
theorem dX0_heapOf_21 : decode cX0_heapOf 21 = .ok (.iand, 1) := by decide +kernel
theorem dX0_heapOf_22 : decode cX0_heapOf 22 = .ok (.ifCond .eq 5, 3) := by decide +kernel
theorem dX0_heapOf_25 : decode cX0_heapOf 25 = .ok (.iload_n 2, 1) := by decide +kernel
theorem dX0_heapOf_26 : decode cX0_heapOf 26 = .ok (.ireturn, 1) := by decide +kernel
theorem dX0_heapOf_27 : decode cX0_heapOf 27 = .ok (.iinc 2 1, 3) := by decide +kernel
theorem dX0_heapOf_30 : decode cX0_heapOf 30 = .ok (.goto (-28), 3) := by decide +kernel
theorem dX0_heapOf_33 : decode cX0_heapOf 33 = .ok (.bipush (-4), 2) := by decide +kernel
theorem dX0_heapOf_35 : decode cX0_heapOf 35 = .ok (.ireturn, 1) := by decide +kernel
theorem dX0_heapOfSize_0 : decode cX0_heapOfSize 0 = .ok (.iconst 0, 1) := by decide +kernel
theorem dX0_heapOfSize_1 : decode cX0_heapOfSize 1 = .ok (.istore_n 2, 1) := by decide +kernel
theorem dX0_heapOfSize_2 : decode cX0_heapOfSize 2 = .ok (.iload_n 2, 1) := by decide +kernel
theorem dX0_heapOfSize_3 : decode cX0_heapOfSize 3 = .ok (.aload_n 0, 1) := by decide +kernel
theorem dX0_heapOfSize_4 : decode cX0_heapOfSize 4 = .ok (.getfield 46, 3) := by decide +kernel
theorem dX0_heapOfSize_7 : decode cX0_heapOfSize 7 = .ok (.if_icmp .ge 27, 3) := by decide +kernel
theorem dX0_heapOfSize_10 : decode cX0_heapOfSize 10 = .ok (.aload_n 0, 1) := by decide +kernel
theorem dX0_heapOfSize_11 : decode cX0_heapOfSize 11 = .ok (.aload_n 0, 1) := by decide +kernel
theorem dX0_heapOfSize_12 : decode cX0_heapOfSize 12 = .ok (.getfield 33, 3) := by decide +kernel
theorem dX0_heapOfSize_15 : decode cX0_heapOfSize 15 = .ok (.iload_n 2, 1) := by decide +kernel
theorem dX0_heapOfSize_16 : decode cX0_heapOfSize 16 = .ok (.invokestatic 49, 3) := by decide +kernel
theorem dX0_heapOfSize_19 : decode cX0_heapOfSize 19 = .ok (.iload_n 1, 1) := by decide +kernel
theorem dX0_heapOfSize_20 : decode cX0_heapOfSize 20 = .ok (.invokevirtual 84, 3) := by decide +kernel
theorem dX0_heapOfSize_23 : decode cX0_heapOfSize 23 = .ok (.ifCond .ne 5, 3) := by decide +kernel
theorem dX0_heapOfSize_26 : decode cX0_heapOfSize 26 = .ok (.iload_n 2, 1) := by decide +kernel
theorem dX0_heapOfSize_27 : decode cX0_heapOfSize 27 = .ok (.ireturn, 1) := by decide +kernel
theorem dX0_heapOfSize_28 : decode cX0_heapOfSize 28 = .ok (.iinc 2 1, 3) := by decide +kernel
theorem dX0_heapOfSize_31 : decode cX0_heapOfSize 31 = .ok (.goto (-29), 3) := by decide +kernel
theorem dX0_heapOfSize_34 : decode cX0_heapOfSize 34 = .ok (.aload_n 0, 1) := by decide +kernel
theorem dX0_heapOfSize_35 : decode cX0_heapOfSize 35 = .ok (.getfield 46, 3) := by decide +kernel
theorem dX0_heapOfSize_38 : decode cX0_heapOfSize 38 = .ok (.ireturn, 1) := by decide +kernel
theorem dX0_shakeThrough_0 : decode cX0_shakeThrough 0 = .ok (.aload_n 0, 1) := by decide +kernel
theorem dX0_shakeThrough_1 : decode cX0_shakeThrough 1 = .ok (.invokevirtual 94, 3) := by decide +kernel
theorem dX0_shakeThrough_4 : decode cX0_shakeThrough 4 = .ok (.istore_n 3, 1) := by decide +kernel
theorem dX0_shakeThrough_5 : decode cX0_shakeThrough 5 = .ok (.iconst 0, 1) := by decide +kernel
theorem dX0_shakeThrough_6 : decode cX0_shakeThrough 6 = .ok (.istore 4, 2) := by decide +kernel
theorem dX0_shakeThrough_8 : decode cX0_shakeThrough 8 = .ok (.iconst 0, 1) := by decide +kernel
theorem dX0_shakeThrough_9 : decode cX0_shakeThrough 9 = .ok (.istore 5, 2) := by decide +kernel
theorem dX0_shakeThrough_11 : decode cX0_shakeThrough 11 = .ok (.iload 5, 2) := by decide +kernel
theorem dX0_shakeThrough_13 : decode cX0_shakeThrough 13 = .ok (.iload_n 2, 1) := by decide +kernel
theorem dX0_shakeThrough_14 : decode cX0_shakeThrough 14 = .ok (.if_icmp .ge 55, 3) := by decide +kernel
theorem dX0_shakeThrough_17 : decode cX0_shakeThrough 17 = .ok (.aload_n 1, 1) := by decide +kernel
theorem dX0_shakeThrough_18 : decode cX0_shakeThrough 18 = .ok (.iload 5, 2) := by decide +kernel
theorem dX0_shakeThrough_20 : decode cX0_shakeThrough 20 = .ok (.invokestatic 49, 3) := by decide +kernel
theorem dX0_shakeThrough_23 : decode cX0_shakeThrough 23 = .ok (.istore 6, 2) := by decide +kernel
theorem dX0_shakeThrough_25 : decode cX0_shakeThrough 25 = .ok (.aload_n 0, 1) := by decide +kernel
theorem dX0_shakeThrough_26 : decode cX0_shakeThrough 26 = .ok (.iload 6, 2) := by decide +kernel
theorem dX0_shakeThrough_28 : decode cX0_shakeThrough 28 = .ok (.iload_n 3, 1) := by decide +kernel
theorem dX0_shakeThrough_29 : decode cX0_shakeThrough 29 = .ok (.invokevirtual 98, 3) := by decide +kernel
theorem dX0_shakeThrough_32 : decode cX0_shakeThrough 32 = .ok (.istore 7, 2) := by decide +kernel
theorem dX0_shakeThrough_34 : decode cX0_shakeThrough 34 = .ok (.iload 4, 2) := by decide +kernel
theorem dX0_shakeThrough_36 : decode cX0_shakeThrough 36 = .ok (.aload_n 0, 1) := by decide +kernel
theorem dX0_shakeThrough_37 : decode cX0_shakeThrough 37 = .ok (.iload_n 3, 1) := by decide +kernel
theorem dX0_shakeThrough_38 : decode cX0_shakeThrough 38 = .ok (.iload 7, 2) := by decide +kernel
theorem dX0_shakeThrough_40 : decode cX0_shakeThrough 40 = .ok (.iconst (-1), 1) := by decide +kernel
theorem dX0_shakeThrough_41 : decode cX0_shakeThrough 41 = .ok (.ixor, 1) := by decide +kernel
theorem dX0_shakeThrough_42 : decode cX0_shakeThrough 42 = .ok (.iand, 1) := by decide +kernel
theorem dX0_shakeThrough_43 : decode cX0_shakeThrough 43 = .ok (.invokevirtual 101, 3) := by decide +kernel
theorem dX0_shakeThrough_46 : decode cX0_shakeThrough 46 = .ok (.iadd, 1) := by decide +kernel
theorem dX0_shakeThrough_47 : decode cX0_shakeThrough 47 = .ok (.istore 4, 2) := by decide +kernel
theorem dX0_shakeThrough_49 : decode cX0_shakeThrough 49 = .ok (.iload 7, 2) := by decide +kernel
theorem dX0_shakeThrough_51 : decode cX0_shakeThrough 51 = .ok (.ifCond .eq 9, 3) := by decide +kernel
theorem dX0_shakeThrough_54 : decode cX0_shakeThrough 54 = .ok (.aload_n 0, 1) := by decide +kernel
theorem dX0_shakeThrough_55 : decode cX0_shakeThrough 55 = .ok (.iload 6, 2) := by decide +kernel
theorem dX0_shakeThrough_57 : decode cX0_shakeThrough 57 = .ok (.invokevirtual 104, 3) := by decide +kernel
theorem dX0_shakeThrough_60 : decode cX0_shakeThrough 60 = .ok (.iload 7, 2) := by decide +kernel
theorem dX0_shakeThrough_62 : decode cX0_shakeThrough 62 = .ok (.istore_n 3, 1) := by decide +kernel
theorem dX0_shakeThrough_63 : decode cX0_shakeThrough 63 = .ok (.iinc 5 1, 3) := by decide +kernel
theorem dX0_shakeThrough_66 : decode cX0_shakeThrough 66 = .ok (.goto (-55), 3) := by decide +kernel
theorem dX0_shakeThrough_69 : decode cX0_shakeThrough 69 = .ok (.aload_n 0, 1) := by decide +kernel
theorem dX0_shakeThrough_70 : decode cX0_shakeThrough 70 = .ok (.aload_n 0, 1) := by decide +kernel
theorem dX0_shakeThrough_71 : decode cX0_shakeThrough 71 = .ok (.getfield 71, 3) := by decide +kernel
theorem dX0_shakeThrough_74 : decode cX0_shakeThrough 74 = .ok (.iconst 1, 1) := by decide +kernel
theorem dX0_shakeThrough_75 : decode cX0_shakeThrough 75 = .ok (.iadd, 1) := by decide +kernel
theorem dX0_shakeThrough_76 : decode cX0_shakeThrough 76 = .ok (.ldc 108, 2) := by decide +kernel
theorem dX0_shakeThrough_78 : decode cX0_shakeThrough 78 = .ok (.invokestatic 74, 3) := by decide +kernel
theorem dX0_shakeThrough_81 : decode cX0_shakeThrough 81 = .ok (.putfield 71, 3) := by decide +kernel
theorem dX0_shakeThrough_84 : decode cX0_shakeThrough 84 = .ok (.iload 4, 2) := by decide +kernel
theorem dX0_shakeThrough_86 : decode cX0_shakeThrough 86 = .ok (.aload_n 0, 1) := by decide +kernel
theorem dX0_shakeThrough_87 : decode cX0_shakeThrough 87 = .ok (.iload_n 3, 1) := by decide +kernel
theorem dX0_shakeThrough_88 : decode cX0_shakeThrough 88 = .ok (.invokevirtual 101, 3) := by decide +kernel
theorem dX0_shakeThrough_91 : decode cX0_shakeThrough 91 = .ok (.iadd, 1) := by decide +kernel
theorem dX0_shakeThrough_92 : decode cX0_shakeThrough 92 = .ok (.ireturn, 1) := by decide +kernel
theorem dX0_widen_0 : decode cX0_widen 0 = .ok (.aload_n 0, 1) := by decide +kernel
theorem dX0_widen_1 : decode cX0_widen 1 = .ok (.getfield 21, 3) := by decide +kernel
theorem dX0_widen_4 : decode cX0_widen 4 = .ok (.iload_n 1, 1) := by decide +kernel
theorem dX0_widen_5 : decode cX0_widen 5 = .ok (.invokestatic 49, 3) := by decide +kernel
theorem dX0_widen_8 : decode cX0_widen 8 = .ok (.iconst 1, 1) := by decide +kernel
theorem dX0_widen_9 : decode cX0_widen 9 = .ok (.if_icmp .ne 7, 3) := by decide +kernel
theorem dX0_widen_12 : decode cX0_widen 12 = .ok (.iconst 0, 1) := by decide +kernel
theorem dX0_widen_13 : decode cX0_widen 13 = .ok (.goto 19, 3) := by decide +kernel
theorem dX0_widen_16 : decode cX0_widen 16 = .ok (.aload_n 0, 1) := by decide +kernel
theorem dX0_widen_17 : decode cX0_widen 17 = .ok (.getfield 21, 3) := by decide +kernel
theorem dX0_widen_20 : decode cX0_widen 20 = .ok (.iload_n 1, 1) := by decide +kernel
theorem dX0_widen_21 : decode cX0_widen 21 = .ok (.invokestatic 49, 3) := by decide +kernel
theorem dX0_widen_24 : decode cX0_widen 24 = .ok (.ifCond .ne 7, 3) := by decide +kernel
theorem dX0_widen_27 : decode cX0_widen 27 = .ok (.iconst 1, 1) := by decide +kernel
theorem dX0_widen_28 : decode cX0_widen 28 = .ok (.goto 4, 3) := by decide +kernel
theorem dX0_widen_31 : decode cX0_widen 31 = .ok (.iconst 2, 1) := by decide +kernel
theorem dX0_widen_32 : decode cX0_widen 32 = .ok (.istore_n 2, 1) := by decide +kernel
theorem dX0_widen_33 : decode cX0_widen 33 = .ok (.aload_n 0, 1) := by decide +kernel
theorem dX0_widen_34 : decode cX0_widen 34 = .ok (.getfield 24, 3) := by decide +kernel
theorem dX0_widen_37 : decode cX0_widen 37 = .ok (.iload_n 1, 1) := by decide +kernel
theorem dX0_widen_38 : decode cX0_widen 38 = .ok (.aload_n 0, 1) := by decide +kernel
theorem dX0_widen_39 : decode cX0_widen 39 = .ok (.getfield 24, 3) := by decide +kernel
theorem dX0_widen_42 : decode cX0_widen 42 = .ok (.iload_n 1, 1) := by decide +kernel
theorem dX0_widen_43 : decode cX0_widen 43 = .ok (.invokestatic 49, 3) := by decide +kernel
theorem dX0_widen_46 : decode cX0_widen 46 = .ok (.iload_n 2, 1) := by decide +kernel
theorem dX0_widen_47 : decode cX0_widen 47 = .ok (.aload_n 0, 1) := by decide +kernel
theorem dX0_widen_48 : decode cX0_widen 48 = .ok (.getfield 30, 3) := by decide +kernel
theorem dX0_widen_51 : decode cX0_widen 51 = .ok (.iload_n 1, 1) := by decide +kernel
theorem dX0_widen_52 : decode cX0_widen 52 = .ok (.invokestatic 49, 3) := by decide +kernel
theorem dX0_widen_55 : decode cX0_widen 55 = .ok (.imul, 1) := by decide +kernel
theorem dX0_widen_56 : decode cX0_widen 56 = .ok (.iadd, 1) := by decide +kernel
theorem dX0_widen_57 : decode cX0_widen 57 = .ok (.bipush 60, 2) := by decide +kernel
theorem dX0_widen_59 : decode cX0_widen 59 = .ok (.invokestatic 74, 3) := by decide +kernel
theorem dX0_widen_62 : decode cX0_widen 62 = .ok (.invokestatic 53, 3) := by decide +kernel
theorem dX0_widen_65 : decode cX0_widen 65 = .ok (.return_, 1) := by decide +kernel
theorem dX1_init_0 : decode cX1_init 0 = .ok (.aload_n 0, 1) := by decide +kernel
theorem dX1_init_1 : decode cX1_init 1 = .ok (.invokespecial 3, 3) := by decide +kernel
theorem dX1_init_4 : decode cX1_init 4 = .ok (.aload_n 0, 1) := by decide +kernel
theorem dX1_init_5 : decode cX1_init 5 = .ok (.iconst 4, 1) := by decide +kernel
theorem dX1_init_6 : decode cX1_init 6 = .ok (.newarray .int, 2) := by decide +kernel
theorem dX1_init_8 : decode cX1_init 8 = .ok (.putfield 9, 3) := by decide +kernel
theorem dX1_init_11 : decode cX1_init 11 = .ok (.aload_n 0, 1) := by decide +kernel
theorem dX1_init_12 : decode cX1_init 12 = .ok (.iconst 4, 1) := by decide +kernel
theorem dX1_init_13 : decode cX1_init 13 = .ok (.newarray .int, 2) := by decide +kernel
theorem dX1_init_15 : decode cX1_init 15 = .ok (.putfield 15, 3) := by decide +kernel
theorem dX1_init_18 : decode cX1_init 18 = .ok (.aload_n 0, 1) := by decide +kernel
theorem dX1_init_19 : decode cX1_init 19 = .ok (.iconst (-1), 1) := by decide +kernel
theorem dX1_init_20 : decode cX1_init 20 = .ok (.putfield 18, 3) := by decide +kernel
theorem dX1_init_23 : decode cX1_init 23 = .ok (.return_, 1) := by decide +kernel
theorem dX1_begin_0 : decode cX1_begin 0 = .ok (.aload_n 0, 1) := by decide +kernel
theorem dX1_begin_1 : decode cX1_begin 1 = .ok (.iload_n 1, 1) := by decide +kernel
theorem dX1_begin_2 : decode cX1_begin 2 = .ok (.putfield 22, 3) := by decide +kernel
theorem dX1_begin_5 : decode cX1_begin 5 = .ok (.aload_n 0, 1) := by decide +kernel
theorem dX1_begin_6 : decode cX1_begin 6 = .ok (.iload_n 2, 1) := by decide +kernel
theorem dX1_begin_7 : decode cX1_begin 7 = .ok (.putfield 25, 3) := by decide +kernel
theorem dX1_begin_10 : decode cX1_begin 10 = .ok (.aload_n 0, 1) := by decide +kernel
theorem dX1_begin_11 : decode cX1_begin 11 = .ok (.iconst 0, 1) := by decide +kernel
theorem dX1_begin_12 : decode cX1_begin 12 = .ok (.putfield 28, 3) := by decide +kernel
theorem dX1_begin_15 : decode cX1_begin 15 = .ok (.aload_n 0, 1) := by decide +kernel
theorem dX1_begin_16 : decode cX1_begin 16 = .ok (.iconst (-1), 1) := by decide +kernel
theorem dX1_begin_17 : decode cX1_begin 17 = .ok (.putfield 18, 3) := by decide +kernel
theorem dX1_begin_20 : decode cX1_begin 20 = .ok (.return_, 1) := by decide +kernel
theorem dX1_choose_0 : decode cX1_choose 0 = .ok (.aload_n 0, 1) := by decide +kernel
theorem dX1_choose_1 : decode cX1_choose 1 = .ok (.getfield 9, 3) := by decide +kernel
theorem dX1_choose_4 : decode cX1_choose 4 = .ok (.aload_n 0, 1) := by decide +kernel
theorem dX1_choose_5 : decode cX1_choose 5 = .ok (.getfield 15, 3) := by decide +kernel
theorem dX1_choose_8 : decode cX1_choose 8 = .ok (.invokestatic 31, 3) := by decide +kernel
theorem dX1_choose_11 : decode cX1_choose 11 = .ok (.aload_n 0, 1) := by decide +kernel
theorem dX1_choose_12 : decode cX1_choose 12 = .ok (.iload_n 1, 1) := by decide +kernel
theorem dX1_choose_13 : decode cX1_choose 13 = .ok (.putfield 18, 3) := by decide +kernel
theorem dX1_choose_16 : decode cX1_choose 16 = .ok (.aload_n 0, 1) := by decide +kernel
theorem dX1_choose_17 : decode cX1_choose 17 = .ok (.iload_n 2, 1) := by decide +kernel
theorem dX1_choose_18 : decode cX1_choose 18 = .ok (.putfield 28, 3) := by decide +kernel
theorem dX1_choose_21 : decode cX1_choose 21 = .ok (.return_, 1) := by decide +kernel
theorem dX1_mixes_0 : decode cX1_mixes 0 = .ok (.iload_n 1, 1) := by decide +kernel
theorem dX1_mixes_1 : decode cX1_mixes 1 = .ok (.aload_n 0, 1) := by decide +kernel
theorem dX1_mixes_2 : decode cX1_mixes 2 = .ok (.getfield 25, 3) := by decide +kernel
theorem dX1_mixes_5 : decode cX1_mixes 5 = .ok (.iand, 1) := by decide +kernel
theorem dX1_mixes_6 : decode cX1_mixes 6 = .ok (.invokestatic 35, 3) := by decide +kernel
theorem dX1_mixes_9 : decode cX1_mixes 9 = .ok (.iconst 1, 1) := by decide +kernel
theorem dX1_mixes_10 : decode cX1_mixes 10 = .ok (.if_icmp .le 7, 3) := by decide +kernel
theorem dX1_mixes_13 : decode cX1_mixes 13 = .ok (.iconst 1, 1) := by decide +kernel
theorem dX1_mixes_14 : decode cX1_mixes 14 = .ok (.goto 4, 3) := by decide +kernel
theorem dX1_mixes_17 : decode cX1_mixes 17 = .ok (.iconst 0, 1) := by decide +kernel
theorem dX1_mixes_18 : decode cX1_mixes 18 = .ok (.ireturn, 1) := by decide +kernel
theorem dX1_chosenAt_0 : decode cX1_chosenAt 0 = .ok (.iload_n 1, 1) := by decide +kernel
theorem dX1_chosenAt_1 : decode cX1_chosenAt 1 = .ok (.aload_n 0, 1) := by decide +kernel
theorem dX1_chosenAt_2 : decode cX1_chosenAt 2 = .ok (.getfield 18, 3) := by decide +kernel
theorem dX1_chosenAt_5 : decode cX1_chosenAt 5 = .ok (.if_icmp .ge 14, 3) := by decide +kernel
theorem dX1_chosenAt_8 : decode cX1_chosenAt 8 = .ok (.aload_n 0, 1) := by decide +kernel
theorem dX1_chosenAt_9 : decode cX1_chosenAt 9 = .ok (.getfield 15, 3) := by decide +kernel
theorem dX1_chosenAt_12 : decode cX1_chosenAt 12 = .ok (.iload_n 1, 1) := by decide +kernel
theorem dX1_chosenAt_13 : decode cX1_chosenAt 13 = .ok (.invokestatic 41, 3) := by decide +kernel
theorem dX1_chosenAt_16 : decode cX1_chosenAt 16 = .ok (.goto 5, 3) := by decide +kernel
theorem dX1_chosenAt_19 : decode cX1_chosenAt 19 = .ok (.bipush (-4), 2) := by decide +kernel
theorem dX1_chosenAt_21 : decode cX1_chosenAt 21 = .ok (.ireturn, 1) := by decide +kernel
theorem dX2_init_0 : decode cX2_init 0 = .ok (.aload_n 0, 1) := by decide +kernel
theorem dX2_init_1 : decode cX2_init 1 = .ok (.invokespecial 3, 3) := by decide +kernel
theorem dX2_init_4 : decode cX2_init 4 = .ok (.aload_n 0, 1) := by decide +kernel
theorem dX2_init_5 : decode cX2_init 5 = .ok (.bipush 24, 2) := by decide +kernel
theorem dX2_init_7 : decode cX2_init 7 = .ok (.newarray .int, 2) := by decide +kernel
theorem dX2_init_9 : decode cX2_init 9 = .ok (.putfield 9, 3) := by decide +kernel
theorem dX2_init_12 : decode cX2_init 12 = .ok (.aload_n 0, 1) := by decide +kernel
theorem dX2_init_13 : decode cX2_init 13 = .ok (.iconst (-1), 1) := by decide +kernel
theorem dX2_init_14 : decode cX2_init 14 = .ok (.putfield 15, 3) := by decide +kernel
theorem dX2_init_17 : decode cX2_init 17 = .ok (.return_, 1) := by decide +kernel
theorem dX2_renew_0 : decode cX2_renew 0 = .ok (.aload_n 0, 1) := by decide +kernel
theorem dX2_renew_1 : decode cX2_renew 1 = .ok (.iload_n 1, 1) := by decide +kernel
theorem dX2_renew_2 : decode cX2_renew 2 = .ok (.putfield 15, 3) := by decide +kernel
theorem dX2_renew_5 : decode cX2_renew 5 = .ok (.aload_n 0, 1) := by decide +kernel
theorem dX2_renew_6 : decode cX2_renew 6 = .ok (.iload_n 2, 1) := by decide +kernel
theorem dX2_renew_7 : decode cX2_renew 7 = .ok (.aload_n 0, 1) := by decide +kernel
theorem dX2_renew_8 : decode cX2_renew 8 = .ok (.getfield 9, 3) := by decide +kernel
theorem dX2_renew_11 : decode cX2_renew 11 = .ok (.arraylength, 1) := by decide +kernel
theorem dX2_renew_12 : decode cX2_renew 12 = .ok (.invokestatic 19, 3) := by decide +kernel
theorem dX2_renew_15 : decode cX2_renew 15 = .ok (.putfield 25, 3) := by decide +kernel
theorem dX2_renew_18 : decode cX2_renew 18 = .ok (.iconst 0, 1) := by decide +kernel
theorem dX2_renew_19 : decode cX2_renew 19 = .ok (.istore_n 3, 1) := by decide +kernel
theorem dX2_renew_20 : decode cX2_renew 20 = .ok (.iload_n 3, 1) := by decide +kernel
theorem dX2_renew_21 : decode cX2_renew 21 = .ok (.aload_n 0, 1) := by decide +kernel
theorem dX2_renew_22 : decode cX2_renew 22 = .ok (.getfield 9, 3) := by decide +kernel
theorem dX2_renew_25 : decode cX2_renew 25 = .ok (.arraylength, 1) := by decide +kernel
theorem dX2_renew_26 : decode cX2_renew 26 = .ok (.if_icmp .ge 16, 3) := by decide +kernel
theorem dX2_renew_29 : decode cX2_renew 29 = .ok (.aload_n 0, 1) := by decide +kernel
theorem dX2_renew_30 : decode cX2_renew 30 = .ok (.getfield 9, 3) := by decide +kernel
theorem dX2_renew_33 : decode cX2_renew 33 = .ok (.iload_n 3, 1) := by decide +kernel
theorem dX2_renew_34 : decode cX2_renew 34 = .ok (.iconst 0, 1) := by decide +kernel
theorem dX2_renew_35 : decode cX2_renew 35 = .ok (.iastore, 1) := by decide +kernel
theorem dX2_renew_36 : decode cX2_renew 36 = .ok (.iinc 3 1, 3) := by decide +kernel
theorem dX2_renew_39 : decode cX2_renew 39 = .ok (.goto (-19), 3) := by decide +kernel
theorem dX2_renew_42 : decode cX2_renew 42 = .ok (.return_, 1) := by decide +kernel
theorem dX2_hasItems_0 : decode cX2_hasItems 0 = .ok (.iload_n 1, 1) := by decide +kernel
theorem dX2_hasItems_1 : decode cX2_hasItems 1 = .ok (.ifCond .lt 29, 3) := by decide +kernel
theorem dX2_hasItems_4 : decode cX2_hasItems 4 = .ok (.iload_n 1, 1) := by decide +kernel
theorem dX2_hasItems_5 : decode cX2_hasItems 5 = .ok (.aload_n 0, 1) := by decide +kernel
theorem dX2_hasItems_6 : decode cX2_hasItems 6 = .ok (.getfield 25, 3) := by decide +kernel
theorem dX2_hasItems_9 : decode cX2_hasItems 9 = .ok (.if_icmp .gt 21, 3) := by decide +kernel
theorem dX2_hasItems_12 : decode cX2_hasItems 12 = .ok (.iload_n 2, 1) := by decide +kernel
theorem dX2_hasItems_13 : decode cX2_hasItems 13 = .ok (.ifCond .lt 17, 3) := by decide +kernel
theorem dX2_hasItems_16 : decode cX2_hasItems 16 = .ok (.iload_n 2, 1) := by decide +kernel
theorem dX2_hasItems_17 : decode cX2_hasItems 17 = .ok (.aload_n 0, 1) := by decide +kernel
theorem dX2_hasItems_18 : decode cX2_hasItems 18 = .ok (.getfield 25, 3) := by decide +kernel
theorem dX2_hasItems_21 : decode cX2_hasItems 21 = .ok (.iload_n 1, 1) := by decide +kernel
theorem dX2_hasItems_22 : decode cX2_hasItems 22 = .ok (.isub, 1) := by decide +kernel
theorem dX2_hasItems_23 : decode cX2_hasItems 23 = .ok (.if_icmp .gt 7, 3) := by decide +kernel
theorem dX2_hasItems_26 : decode cX2_hasItems 26 = .ok (.iconst 1, 1) := by decide +kernel
theorem dX2_hasItems_27 : decode cX2_hasItems 27 = .ok (.goto 4, 3) := by decide +kernel
theorem dX2_hasItems_30 : decode cX2_hasItems 30 = .ok (.iconst 0, 1) := by decide +kernel
theorem dX2_hasItems_31 : decode cX2_hasItems 31 = .ok (.ireturn, 1) := by decide +kernel
theorem dX2_refusal_0 : decode cX2_refusal 0 = .ok (.aload_n 0, 1) := by decide +kernel
theorem dX2_refusal_1 : decode cX2_refusal 1 = .ok (.getfield 15, 3) := by decide +kernel
theorem dX2_refusal_4 : decode cX2_refusal 4 = .ok (.iconst (-1), 1) := by decide +kernel
theorem dX2_refusal_5 : decode cX2_refusal 5 = .ok (.if_icmp .ne 6, 3) := by decide +kernel
theorem dX2_refusal_8 : decode cX2_refusal 8 = .ok (.bipush (-11), 2) := by decide +kernel
theorem dX2_refusal_10 : decode cX2_refusal 10 = .ok (.ireturn, 1) := by decide +kernel
theorem dX2_refusal_11 : decode cX2_refusal 11 = .ok (.aload_n 0, 1) := by decide +kernel
theorem dX2_refusal_12 : decode cX2_refusal 12 = .ok (.getfield 15, 3) := by decide +kernel
theorem dX2_refusal_15 : decode cX2_refusal 15 = .ok (.iload_n 1, 1) := by decide +kernel
theorem dX2_refusal_16 : decode cX2_refusal 16 = .ok (.if_icmp .eq 6, 3) := by decide +kernel
theorem dX2_refusal_19 : decode cX2_refusal 19 = .ok (.bipush (-12), 2) := by decide +kernel
theorem dX2_refusal_21 : decode cX2_refusal 21 = .ok (.ireturn, 1) := by decide +kernel
theorem dX2_refusal_22 : decode cX2_refusal 22 = .ok (.aload_n 0, 1) := by decide +kernel
theorem dX2_refusal_23 : decode cX2_refusal 23 = .ok (.iload_n 2, 1) := by decide +kernel
theorem dX2_refusal_24 : decode cX2_refusal 24 = .ok (.iload_n 3, 1) := by decide +kernel
theorem dX2_refusal_25 : decode cX2_refusal 25 = .ok (.invokevirtual 28, 3) := by decide +kernel
theorem dX2_refusal_28 : decode cX2_refusal 28 = .ok (.ifCond .eq 7, 3) := by decide +kernel
theorem dX2_refusal_31 : decode cX2_refusal 31 = .ok (.iconst 0, 1) := by decide +kernel
theorem dX2_refusal_32 : decode cX2_refusal 32 = .ok (.goto 5, 3) := by decide +kernel
theorem dX2_refusal_35 : decode cX2_refusal 35 = .ok (.bipush (-13), 2) := by decide +kernel
theorem dX2_refusal_37 : decode cX2_refusal 37 = .ok (.ireturn, 1) := by decide +kernel
theorem dX2_write_0 : decode cX2_write 0 = .ok (.aload_n 0, 1) := by decide +kernel
theorem dX2_write_1 : decode cX2_write 1 = .ok (.getfield 9, 3) := by decide +kernel
theorem dX2_write_4 : decode cX2_write 4 = .ok (.iload_n 1, 1) := by decide +kernel
theorem dX2_write_5 : decode cX2_write 5 = .ok (.aload_n 0, 1) := by decide +kernel
theorem dX2_write_6 : decode cX2_write 6 = .ok (.getfield 15, 3) := by decide +kernel
theorem dX2_write_9 : decode cX2_write 9 = .ok (.ifCond .ne 8, 3) := by decide +kernel
theorem dX2_write_12 : decode cX2_write 12 = .ok (.iload_n 2, 1) := by decide +kernel
theorem dX2_write_13 : decode cX2_write 13 = .ok (.i2b, 1) := by decide +kernel
theorem dX2_write_14 : decode cX2_write 14 = .ok (.goto 17, 3) := by decide +kernel
theorem dX2_write_17 : decode cX2_write 17 = .ok (.aload_n 0, 1) := by decide +kernel
theorem dX2_write_18 : decode cX2_write 18 = .ok (.getfield 15, 3) := by decide +kernel
theorem dX2_write_21 : decode cX2_write 21 = .ok (.iconst 1, 1) := by decide +kernel
theorem dX2_write_22 : decode cX2_write 22 = .ok (.if_icmp .ne 8, 3) := by decide +kernel
theorem dX2_write_25 : decode cX2_write 25 = .ok (.iload_n 2, 1) := by decide +kernel
theorem dX2_write_26 : decode cX2_write 26 = .ok (.i2s, 1) := by decide +kernel
theorem dX2_write_27 : decode cX2_write 27 = .ok (.goto 4, 3) := by decide +kernel
theorem dX2_write_30 : decode cX2_write 30 = .ok (.iload_n 2, 1) := by decide +kernel
theorem dX2_write_31 : decode cX2_write 31 = .ok (.invokestatic 32, 3) := by decide +kernel
theorem dX2_write_34 : decode cX2_write 34 = .ok (.return_, 1) := by decide +kernel
theorem dX3_init_0 : decode cX3_init 0 = .ok (.aload_n 0, 1) := by decide +kernel
theorem dX3_init_1 : decode cX3_init 1 = .ok (.invokespecial 3, 3) := by decide +kernel
theorem dX3_init_4 : decode cX3_init 4 = .ok (.aload_n 0, 1) := by decide +kernel
theorem dX3_init_5 : decode cX3_init 5 = .ok (.bipush 120, 2) := by decide +kernel
theorem dX3_init_7 : decode cX3_init 7 = .ok (.newarray .int, 2) := by decide +kernel
theorem dX3_init_9 : decode cX3_init 9 = .ok (.putfield 9, 3) := by decide +kernel
theorem dX3_init_12 : decode cX3_init 12 = .ok (.return_, 1) := by decide +kernel
theorem dX3_append_0 : decode cX3_append 0 = .ok (.aload_n 0, 1) := by decide +kernel
theorem dX3_append_1 : decode cX3_append 1 = .ok (.getfield 9, 3) := by decide +kernel
theorem dX3_append_4 : decode cX3_append 4 = .ok (.aload_n 0, 1) := by decide +kernel
theorem dX3_append_5 : decode cX3_append 5 = .ok (.getfield 15, 3) := by decide +kernel
theorem dX3_append_8 : decode cX3_append 8 = .ok (.iload_n 1, 1) := by decide +kernel
theorem dX3_append_9 : decode cX3_append 9 = .ok (.invokestatic 19, 3) := by decide +kernel
theorem dX3_append_12 : decode cX3_append 12 = .ok (.aload_n 0, 1) := by decide +kernel
theorem dX3_append_13 : decode cX3_append 13 = .ok (.dup, 1) := by decide +kernel
theorem dX3_append_14 : decode cX3_append 14 = .ok (.getfield 15, 3) := by decide +kernel
theorem dX3_append_17 : decode cX3_append 17 = .ok (.iconst 1, 1) := by decide +kernel
theorem dX3_append_18 : decode cX3_append 18 = .ok (.iadd, 1) := by decide +kernel
theorem dX3_append_19 : decode cX3_append 19 = .ok (.putfield 15, 3) := by decide +kernel
theorem dX3_append_22 : decode cX3_append 22 = .ok (.return_, 1) := by decide +kernel
theorem dX3_readLoft_0 : decode cX3_readLoft 0 = .ok (.aload_n 0, 1) := by decide +kernel
theorem dX3_readLoft_1 : decode cX3_readLoft 1 = .ok (.invokevirtual 23, 3) := by decide +kernel
theorem dX3_readLoft_4 : decode cX3_readLoft 4 = .ok (.aload_n 1, 1) := by decide +kernel
theorem dX3_readLoft_5 : decode cX3_readLoft 5 = .ok (.iconst 0, 1) := by decide +kernel
theorem dX3_readLoft_6 : decode cX3_readLoft 6 = .ok (.putfield 26, 3) := by decide +kernel
theorem dX3_readLoft_9 : decode cX3_readLoft 9 = .ok (.iconst 1, 1) := by decide +kernel
theorem dX3_readLoft_10 : decode cX3_readLoft 10 = .ok (.istore_n 2, 1) := by decide +kernel
theorem dX3_readLoft_11 : decode cX3_readLoft 11 = .ok (.iconst 1, 1) := by decide +kernel
theorem dX3_readLoft_12 : decode cX3_readLoft 12 = .ok (.istore_n 3, 1) := by decide +kernel
theorem dX3_readLoft_13 : decode cX3_readLoft 13 = .ok (.iload_n 2, 1) := by decide +kernel
theorem dX3_readLoft_14 : decode cX3_readLoft 14 = .ok (.ifCond .eq 114, 3) := by decide +kernel
theorem dX3_readLoft_17 : decode cX3_readLoft 17 = .ok (.iload_n 3, 1) := by decide +kernel
theorem dX3_readLoft_18 : decode cX3_readLoft 18 = .ok (.bipush 8, 2) := by decide +kernel
theorem dX3_readLoft_20 : decode cX3_readLoft 20 = .ok (.if_icmp .gt 108, 3) := by decide +kernel
theorem dX3_readLoft_23 : decode cX3_readLoft 23 = .ok (.aload_n 0, 1) := by decide +kernel
theorem dX3_readLoft_24 : decode cX3_readLoft 24 = .ok (.invokevirtual 31, 3) := by decide +kernel
theorem dX3_readLoft_27 : decode cX3_readLoft 27 = .ok (.istore 4, 2) := by decide +kernel
theorem dX3_readLoft_29 : decode cX3_readLoft 29 = .ok (.aload_n 0, 1) := by decide +kernel
theorem dX3_readLoft_30 : decode cX3_readLoft 30 = .ok (.iconst 1, 1) := by decide +kernel
theorem dX3_readLoft_31 : decode cX3_readLoft 31 = .ok (.bipush 60, 2) := by decide +kernel
theorem dX3_readLoft_33 : decode cX3_readLoft 33 = .ok (.invokevirtual 35, 3) := by decide +kernel
theorem dX3_readLoft_36 : decode cX3_readLoft 36 = .ok (.istore 5, 2) := by decide +kernel
theorem dX3_readLoft_38 : decode cX3_readLoft 38 = .ok (.aload_n 0, 1) := by decide +kernel
theorem dX3_readLoft_39 : decode cX3_readLoft 39 = .ok (.bipush 104, 2) := by decide +kernel
theorem dX3_readLoft_41 : decode cX3_readLoft 41 = .ok (.invokevirtual 39, 3) := by decide +kernel
theorem dX3_readLoft_44 : decode cX3_readLoft 44 = .ok (.ifCond .eq 13, 3) := by decide +kernel
theorem dX3_readLoft_47 : decode cX3_readLoft 47 = .ok (.aload_n 0, 1) := by decide +kernel
theorem dX3_readLoft_48 : decode cX3_readLoft 48 = .ok (.iconst 1, 1) := by decide +kernel
theorem dX3_readLoft_49 : decode cX3_readLoft 49 = .ok (.ldc 43, 2) := by decide +kernel
theorem dX3_readLoft_51 : decode cX3_readLoft 51 = .ok (.invokevirtual 35, 3) := by decide +kernel
theorem dX3_readLoft_54 : decode cX3_readLoft 54 = .ok (.goto 5, 3) := by decide +kernel
theorem dX3_readLoft_57 : decode cX3_readLoft 57 = .ok (.ldc 43, 2) := by decide +kernel
theorem dX3_readLoft_59 : decode cX3_readLoft 59 = .ok (.istore 6, 2) := by decide +kernel
theorem dX3_readLoft_61 : decode cX3_readLoft 61 = .ok (.aload_n 0, 1) := by decide +kernel
theorem dX3_readLoft_62 : decode cX3_readLoft 62 = .ok (.bipush 119, 2) := by decide +kernel
theorem dX3_readLoft_64 : decode cX3_readLoft 64 = .ok (.invokevirtual 39, 3) := by decide +kernel
theorem dX3_readLoft_67 : decode cX3_readLoft 67 = .ok (.ifCond .eq 11, 3) := by decide +kernel
theorem dX3_readLoft_70 : decode cX3_readLoft 70 = .ok (.aload_n 0, 1) := by decide +kernel
theorem dX3_readLoft_71 : decode cX3_readLoft 71 = .ok (.iconst 3, 1) := by decide +kernel
theorem dX3_readLoft_72 : decode cX3_readLoft 72 = .ok (.invokevirtual 44, 3) := by decide +kernel
theorem dX3_readLoft_75 : decode cX3_readLoft 75 = .ok (.goto 4, 3) := by decide +kernel
theorem dX3_readLoft_78 : decode cX3_readLoft 78 = .ok (.iconst 0, 1) := by decide +kernel
theorem dX3_readLoft_79 : decode cX3_readLoft 79 = .ok (.istore 7, 2) := by decide +kernel
theorem dX3_readLoft_81 : decode cX3_readLoft 81 = .ok (.aload_n 1, 1) := by decide +kernel
theorem dX3_readLoft_82 : decode cX3_readLoft 82 = .ok (.iload 4, 2) := by decide +kernel
theorem dX3_readLoft_84 : decode cX3_readLoft 84 = .ok (.iload 5, 2) := by decide +kernel
theorem dX3_readLoft_86 : decode cX3_readLoft 86 = .ok (.iload 6, 2) := by decide +kernel
theorem dX3_readLoft_88 : decode cX3_readLoft 88 = .ok (.iload 7, 2) := by decide +kernel
theorem dX3_readLoft_90 : decode cX3_readLoft 90 = .ok (.invokevirtual 48, 3) := by decide +kernel
theorem dX3_readLoft_93 : decode cX3_readLoft 93 = .ok (.pop, 1) := by decide +kernel
theorem dX3_readLoft_94 : decode cX3_readLoft 94 = .ok (.aload_n 0, 1) := by decide +kernel
theorem dX3_readLoft_95 : decode cX3_readLoft 95 = .ok (.getfield 52, 3) := by decide +kernel
theorem dX3_readLoft_98 : decode cX3_readLoft 98 = .ok (.ifCond .ge 22, 3) := by decide +kernel
theorem dX3_readLoft_101 : decode cX3_readLoft 101 = .ok (.iload_n 3, 1) := by decide +kernel
theorem dX3_readLoft_102 : decode cX3_readLoft 102 = .ok (.bipush 8, 2) := by decide +kernel
theorem dX3_readLoft_104 : decode cX3_readLoft 104 = .ok (.if_icmp .ge 16, 3) := by decide +kernel
theorem dX3_readLoft_107 : decode cX3_readLoft 107 = .ok (.aload_n 0, 1) := by decide +kernel
theorem dX3_readLoft_108 : decode cX3_readLoft 108 = .ok (.bipush 44, 2) := by decide +kernel
theorem dX3_readLoft_110 : decode cX3_readLoft 110 = .ok (.invokevirtual 39, 3) := by decide +kernel
theorem dX3_readLoft_113 : decode cX3_readLoft 113 = .ok (.ifCond .eq 7, 3) := by decide +kernel
theorem dX3_readLoft_116 : decode cX3_readLoft 116 = .ok (.iconst 1, 1) := by decide +kernel
theorem dX3_readLoft_117 : decode cX3_readLoft 117 = .ok (.goto 4, 3) := by decide +kernel
theorem dX3_readLoft_120 : decode cX3_readLoft 120 = .ok (.iconst 0, 1) := by decide +kernel
theorem dX3_readLoft_121 : decode cX3_readLoft 121 = .ok (.istore_n 2, 1) := by decide +kernel
theorem dX3_readLoft_122 : decode cX3_readLoft 122 = .ok (.iinc 3 1, 3) := by decide +kernel
theorem dX3_readLoft_125 : decode cX3_readLoft 125 = .ok (.goto (-112), 3) := by decide +kernel
theorem dX3_readLoft_128 : decode cX3_readLoft 128 = .ok (.aload_n 0, 1) := by decide +kernel
theorem dX3_readLoft_129 : decode cX3_readLoft 129 = .ok (.invokevirtual 55, 3) := by decide +kernel
theorem dX3_readLoft_132 : decode cX3_readLoft 132 = .ok (.return_, 1) := by decide +kernel
theorem dX3_readHeap_0 : decode cX3_readHeap 0 = .ok (.aload_n 0, 1) := by decide +kernel
theorem dX3_readHeap_1 : decode cX3_readHeap 1 = .ok (.invokevirtual 23, 3) := by decide +kernel
theorem dX3_readHeap_4 : decode cX3_readHeap 4 = .ok (.aload_n 1, 1) := by decide +kernel
theorem dX3_readHeap_5 : decode cX3_readHeap 5 = .ok (.iconst 0, 1) := by decide +kernel
theorem dX3_readHeap_6 : decode cX3_readHeap 6 = .ok (.putfield 58, 3) := by decide +kernel
theorem dX3_readHeap_9 : decode cX3_readHeap 9 = .ok (.iconst 1, 1) := by decide +kernel
theorem dX3_readHeap_10 : decode cX3_readHeap 10 = .ok (.istore_n 2, 1) := by decide +kernel
theorem dX3_readHeap_11 : decode cX3_readHeap 11 = .ok (.iconst 1, 1) := by decide +kernel
theorem dX3_readHeap_12 : decode cX3_readHeap 12 = .ok (.istore_n 3, 1) := by decide +kernel
theorem dX3_readHeap_13 : decode cX3_readHeap 13 = .ok (.iload_n 2, 1) := by decide +kernel
theorem dX3_readHeap_14 : decode cX3_readHeap 14 = .ok (.ifCond .eq 108, 3) := by decide +kernel
theorem dX3_readHeap_17 : decode cX3_readHeap 17 = .ok (.iload_n 3, 1) := by decide +kernel
theorem dX3_readHeap_18 : decode cX3_readHeap 18 = .ok (.bipush 6, 2) := by decide +kernel
theorem dX3_readHeap_20 : decode cX3_readHeap 20 = .ok (.if_icmp .gt 102, 3) := by decide +kernel
theorem dX3_readHeap_23 : decode cX3_readHeap 23 = .ok (.aload_n 0, 1) := by decide +kernel
theorem dX3_readHeap_24 : decode cX3_readHeap 24 = .ok (.iconst 1, 1) := by decide +kernel
theorem dX3_readHeap_25 : decode cX3_readHeap 25 = .ok (.bipush 60, 2) := by decide +kernel
theorem dX3_readHeap_27 : decode cX3_readHeap 27 = .ok (.invokevirtual 35, 3) := by decide +kernel
theorem dX3_readHeap_30 : decode cX3_readHeap 30 = .ok (.istore 4, 2) := by decide +kernel
theorem dX3_readHeap_32 : decode cX3_readHeap 32 = .ok (.aload_n 0, 1) := by decide +kernel
theorem dX3_readHeap_33 : decode cX3_readHeap 33 = .ok (.bipush 42, 2) := by decide +kernel
theorem dX3_readHeap_35 : decode cX3_readHeap 35 = .ok (.invokevirtual 39, 3) := by decide +kernel
theorem dX3_readHeap_38 : decode cX3_readHeap 38 = .ok (.ifCond .eq 14, 3) := by decide +kernel
theorem dX3_readHeap_41 : decode cX3_readHeap 41 = .ok (.aload_n 0, 1) := by decide +kernel
theorem dX3_readHeap_42 : decode cX3_readHeap 42 = .ok (.iconst 0, 1) := by decide +kernel
theorem dX3_readHeap_43 : decode cX3_readHeap 43 = .ok (.sipush 9999, 3) := by decide +kernel
theorem dX3_readHeap_46 : decode cX3_readHeap 46 = .ok (.invokevirtual 35, 3) := by decide +kernel
theorem dX3_readHeap_49 : decode cX3_readHeap 49 = .ok (.goto 4, 3) := by decide +kernel
theorem dX3_readHeap_52 : decode cX3_readHeap 52 = .ok (.iconst 1, 1) := by decide +kernel
theorem dX3_readHeap_53 : decode cX3_readHeap 53 = .ok (.istore 5, 2) := by decide +kernel
theorem dX3_readHeap_55 : decode cX3_readHeap 55 = .ok (.aload_n 0, 1) := by decide +kernel
theorem dX3_readHeap_56 : decode cX3_readHeap 56 = .ok (.bipush 36, 2) := by decide +kernel
theorem dX3_readHeap_58 : decode cX3_readHeap 58 = .ok (.invokevirtual 39, 3) := by decide +kernel
theorem dX3_readHeap_61 : decode cX3_readHeap 61 = .ok (.ifCond .eq 13, 3) := by decide +kernel
theorem dX3_readHeap_64 : decode cX3_readHeap 64 = .ok (.aload_n 0, 1) := by decide +kernel
theorem dX3_readHeap_65 : decode cX3_readHeap 65 = .ok (.iconst 0, 1) := by decide +kernel
theorem dX3_readHeap_66 : decode cX3_readHeap 66 = .ok (.bipush 99, 2) := by decide +kernel
theorem dX3_readHeap_68 : decode cX3_readHeap 68 = .ok (.invokevirtual 35, 3) := by decide +kernel
theorem dX3_readHeap_71 : decode cX3_readHeap 71 = .ok (.goto 4, 3) := by decide +kernel
theorem dX3_readHeap_74 : decode cX3_readHeap 74 = .ok (.iconst 0, 1) := by decide +kernel
theorem dX3_readHeap_75 : decode cX3_readHeap 75 = .ok (.istore 6, 2) := by decide +kernel
theorem dX3_readHeap_77 : decode cX3_readHeap 77 = .ok (.aload_n 1, 1) := by decide +kernel
theorem dX3_readHeap_78 : decode cX3_readHeap 78 = .ok (.iload 4, 2) := by decide +kernel
theorem dX3_readHeap_80 : decode cX3_readHeap 80 = .ok (.iload 5, 2) := by decide +kernel
theorem dX3_readHeap_82 : decode cX3_readHeap 82 = .ok (.iload 6, 2) := by decide +kernel
theorem dX3_readHeap_84 : decode cX3_readHeap 84 = .ok (.invokevirtual 61, 3) := by decide +kernel
theorem dX3_readHeap_87 : decode cX3_readHeap 87 = .ok (.pop, 1) := by decide +kernel
theorem dX3_readHeap_88 : decode cX3_readHeap 88 = .ok (.aload_n 0, 1) := by decide +kernel
theorem dX3_readHeap_89 : decode cX3_readHeap 89 = .ok (.getfield 52, 3) := by decide +kernel
theorem dX3_readHeap_92 : decode cX3_readHeap 92 = .ok (.ifCond .ge 22, 3) := by decide +kernel
theorem dX3_readHeap_95 : decode cX3_readHeap 95 = .ok (.iload_n 3, 1) := by decide +kernel
theorem dX3_readHeap_96 : decode cX3_readHeap 96 = .ok (.bipush 6, 2) := by decide +kernel
theorem dX3_readHeap_98 : decode cX3_readHeap 98 = .ok (.if_icmp .ge 16, 3) := by decide +kernel
theorem dX3_readHeap_101 : decode cX3_readHeap 101 = .ok (.aload_n 0, 1) := by decide +kernel
theorem dX3_readHeap_102 : decode cX3_readHeap 102 = .ok (.bipush 44, 2) := by decide +kernel
theorem dX3_readHeap_104 : decode cX3_readHeap 104 = .ok (.invokevirtual 39, 3) := by decide +kernel
theorem dX3_readHeap_107 : decode cX3_readHeap 107 = .ok (.ifCond .eq 7, 3) := by decide +kernel
theorem dX3_readHeap_110 : decode cX3_readHeap 110 = .ok (.iconst 1, 1) := by decide +kernel
theorem dX3_readHeap_111 : decode cX3_readHeap 111 = .ok (.goto 4, 3) := by decide +kernel
theorem dX3_readHeap_114 : decode cX3_readHeap 114 = .ok (.iconst 0, 1) := by decide +kernel
theorem dX3_readHeap_115 : decode cX3_readHeap 115 = .ok (.istore_n 2, 1) := by decide +kernel
theorem dX3_readHeap_116 : decode cX3_readHeap 116 = .ok (.iinc 3 1, 3) := by decide +kernel
theorem dX3_readHeap_119 : decode cX3_readHeap 119 = .ok (.goto (-106), 3) := by decide +kernel
theorem dX3_readHeap_122 : decode cX3_readHeap 122 = .ok (.aload_n 0, 1) := by decide +kernel
theorem dX3_readHeap_123 : decode cX3_readHeap 123 = .ok (.invokevirtual 55, 3) := by decide +kernel
theorem dX3_readHeap_126 : decode cX3_readHeap 126 = .ok (.return_, 1) := by decide +kernel
theorem dX3_readRow_0 : decode cX3_readRow 0 = .ok (.aload_n 0, 1) := by decide +kernel
theorem dX3_readRow_1 : decode cX3_readRow 1 = .ok (.invokevirtual 23, 3) := by decide +kernel
theorem dX3_readRow_4 : decode cX3_readRow 4 = .ok (.aload_n 1, 1) := by decide +kernel
theorem dX3_readRow_5 : decode cX3_readRow 5 = .ok (.iconst 0, 1) := by decide +kernel
theorem dX3_readRow_6 : decode cX3_readRow 6 = .ok (.putfield 65, 3) := by decide +kernel
theorem dX3_readRow_9 : decode cX3_readRow 9 = .ok (.iconst 1, 1) := by decide +kernel
theorem dX3_readRow_10 : decode cX3_readRow 10 = .ok (.istore_n 3, 1) := by decide +kernel
theorem dX3_readRow_11 : decode cX3_readRow 11 = .ok (.iconst 0, 1) := by decide +kernel
theorem dX3_readRow_12 : decode cX3_readRow 12 = .ok (.istore 4, 2) := by decide +kernel
theorem dX3_readRow_14 : decode cX3_readRow 14 = .ok (.iload_n 3, 1) := by decide +kernel
theorem dX3_readRow_15 : decode cX3_readRow 15 = .ok (.ifCond .eq 72, 3) := by decide +kernel
theorem dX3_readRow_18 : decode cX3_readRow 18 = .ok (.iload 4, 2) := by decide +kernel
theorem dX3_readRow_20 : decode cX3_readRow 20 = .ok (.bipush 6, 2) := by decide +kernel
theorem dX3_readRow_22 : decode cX3_readRow 22 = .ok (.if_icmp .ge 65, 3) := by decide +kernel
theorem dX3_readRow_25 : decode cX3_readRow 25 = .ok (.aload_n 0, 1) := by decide +kernel
theorem dX3_readRow_26 : decode cX3_readRow 26 = .ok (.invokevirtual 68, 3) := by decide +kernel
theorem dX3_readRow_29 : decode cX3_readRow 29 = .ok (.bipush 48, 2) := by decide +kernel
theorem dX3_readRow_31 : decode cX3_readRow 31 = .ok (.isub, 1) := by decide +kernel
theorem dX3_readRow_32 : decode cX3_readRow 32 = .ok (.istore 5, 2) := by decide +kernel
theorem dX3_readRow_34 : decode cX3_readRow 34 = .ok (.iload 5, 2) := by decide +kernel
theorem dX3_readRow_36 : decode cX3_readRow 36 = .ok (.iconst 0, 1) := by decide +kernel
theorem dX3_readRow_37 : decode cX3_readRow 37 = .ok (.iload_n 2, 1) := by decide +kernel
theorem dX3_readRow_38 : decode cX3_readRow 38 = .ok (.iconst 1, 1) := by decide +kernel
theorem dX3_readRow_39 : decode cX3_readRow 39 = .ok (.isub, 1) := by decide +kernel
theorem dX3_readRow_40 : decode cX3_readRow 40 = .ok (.invokestatic 71, 3) := by decide +kernel
theorem dX3_readRow_43 : decode cX3_readRow 43 = .ok (.ifCond .eq 16, 3) := by decide +kernel
theorem dX3_readRow_46 : decode cX3_readRow 46 = .ok (.aload_n 1, 1) := by decide +kernel
theorem dX3_readRow_47 : decode cX3_readRow 47 = .ok (.iload 5, 2) := by decide +kernel
theorem dX3_readRow_49 : decode cX3_readRow 49 = .ok (.invokevirtual 75, 3) := by decide +kernel
theorem dX3_readRow_52 : decode cX3_readRow 52 = .ok (.ifCond .ne 7, 3) := by decide +kernel
theorem dX3_readRow_55 : decode cX3_readRow 55 = .ok (.iconst 1, 1) := by decide +kernel
theorem dX3_readRow_56 : decode cX3_readRow 56 = .ok (.goto 4, 3) := by decide +kernel
theorem dX3_readRow_59 : decode cX3_readRow 59 = .ok (.iconst 0, 1) := by decide +kernel
theorem dX3_readRow_60 : decode cX3_readRow 60 = .ok (.istore_n 3, 1) := by decide +kernel
theorem dX3_readRow_61 : decode cX3_readRow 61 = .ok (.iload_n 3, 1) := by decide +kernel
theorem dX3_readRow_62 : decode cX3_readRow 62 = .ok (.ifCond .eq 19, 3) := by decide +kernel
theorem dX3_readRow_65 : decode cX3_readRow 65 = .ok (.aload_n 1, 1) := by decide +kernel
theorem dX3_readRow_66 : decode cX3_readRow 66 = .ok (.iload 5, 2) := by decide +kernel
theorem dX3_readRow_68 : decode cX3_readRow 68 = .ok (.invokevirtual 78, 3) := by decide +kernel
theorem dX3_readRow_71 : decode cX3_readRow 71 = .ok (.aload_n 0, 1) := by decide +kernel
theorem dX3_readRow_72 : decode cX3_readRow 72 = .ok (.dup, 1) := by decide +kernel
theorem dX3_readRow_73 : decode cX3_readRow 73 = .ok (.getfield 82, 3) := by decide +kernel
theorem dX3_readRow_76 : decode cX3_readRow 76 = .ok (.iconst 1, 1) := by decide +kernel
theorem dX3_readRow_77 : decode cX3_readRow 77 = .ok (.iadd, 1) := by decide +kernel
theorem dX3_readRow_78 : decode cX3_readRow 78 = .ok (.putfield 82, 3) := by decide +kernel
theorem dX3_readRow_81 : decode cX3_readRow 81 = .ok (.iinc 4 1, 3) := by decide +kernel
theorem dX3_readRow_84 : decode cX3_readRow 84 = .ok (.goto (-70), 3) := by decide +kernel
theorem dX3_readRow_87 : decode cX3_readRow 87 = .ok (.aload_n 0, 1) := by decide +kernel
theorem dX3_readRow_88 : decode cX3_readRow 88 = .ok (.invokevirtual 55, 3) := by decide +kernel
theorem dX3_readRow_91 : decode cX3_readRow 91 = .ok (.return_, 1) := by decide +kernel
theorem dX3_begin_0 : decode cX3_begin 0 = .ok (.aload_n 0, 1) := by decide +kernel
theorem dX3_begin_1 : decode cX3_begin 1 = .ok (.iconst 0, 1) := by decide +kernel
theorem dX3_begin_2 : decode cX3_begin 2 = .ok (.putfield 82, 3) := by decide +kernel
theorem dX3_begin_5 : decode cX3_begin 5 = .ok (.aload_n 0, 1) := by decide +kernel
theorem dX3_begin_6 : decode cX3_begin 6 = .ok (.iconst (-1), 1) := by decide +kernel
theorem dX3_begin_7 : decode cX3_begin 7 = .ok (.putfield 52, 3) := by decide +kernel
theorem dX3_begin_10 : decode cX3_begin 10 = .ok (.return_, 1) := by decide +kernel
theorem dX3_end_0 : decode cX3_end 0 = .ok (.aload_n 0, 1) := by decide +kernel
theorem dX3_end_1 : decode cX3_end 1 = .ok (.invokevirtual 68, 3) := by decide +kernel
theorem dX3_end_4 : decode cX3_end 4 = .ok (.iconst (-1), 1) := by decide +kernel
theorem dX3_end_5 : decode cX3_end 5 = .ok (.if_icmp .eq 11, 3) := by decide +kernel
theorem dX3_end_8 : decode cX3_end 8 = .ok (.aload_n 0, 1) := by decide +kernel
theorem dX3_end_9 : decode cX3_end 9 = .ok (.aload_n 0, 1) := by decide +kernel
theorem dX3_end_10 : decode cX3_end 10 = .ok (.getfield 82, 3) := by decide +kernel
theorem dX3_end_13 : decode cX3_end 13 = .ok (.invokevirtual 85, 3) := by decide +kernel
theorem dX3_end_16 : decode cX3_end 16 = .ok (.aload_n 0, 1) := by decide +kernel
theorem dX3_end_17 : decode cX3_end 17 = .ok (.iconst 0, 1) := by decide +kernel
theorem dX3_end_18 : decode cX3_end 18 = .ok (.putfield 15, 3) := by decide +kernel
theorem dX3_end_21 : decode cX3_end 21 = .ok (.return_, 1) := by decide +kernel
theorem dX3_answerOr_0 : decode cX3_answerOr 0 = .ok (.aload_n 0, 1) := by decide +kernel
theorem dX3_answerOr_1 : decode cX3_answerOr 1 = .ok (.getfield 52, 3) := by decide +kernel
theorem dX3_answerOr_4 : decode cX3_answerOr 4 = .ok (.ifCond .ge 7, 3) := by decide +kernel
theorem dX3_answerOr_7 : decode cX3_answerOr 7 = .ok (.iload_n 1, 1) := by decide +kernel
theorem dX3_answerOr_8 : decode cX3_answerOr 8 = .ok (.goto 10, 3) := by decide +kernel
theorem dX3_answerOr_11 : decode cX3_answerOr 11 = .ok (.bipush (-20), 2) := by decide +kernel
theorem dX3_answerOr_13 : decode cX3_answerOr 13 = .ok (.aload_n 0, 1) := by decide +kernel
theorem dX3_answerOr_14 : decode cX3_answerOr 14 = .ok (.getfield 52, 3) := by decide +kernel
theorem dX3_answerOr_17 : decode cX3_answerOr 17 = .ok (.isub, 1) := by decide +kernel
theorem dX3_answerOr_18 : decode cX3_answerOr 18 = .ok (.ireturn, 1) := by decide +kernel
theorem dX3_blame_0 : decode cX3_blame 0 = .ok (.aload_n 0, 1) := by decide +kernel
theorem dX3_blame_1 : decode cX3_blame 1 = .ok (.getfield 52, 3) := by decide +kernel
theorem dX3_blame_4 : decode cX3_blame 4 = .ok (.ifCond .ge 8, 3) := by decide +kernel
theorem dX3_blame_7 : decode cX3_blame 7 = .ok (.aload_n 0, 1) := by decide +kernel
theorem dX3_blame_8 : decode cX3_blame 8 = .ok (.iload_n 1, 1) := by decide +kernel
theorem dX3_blame_9 : decode cX3_blame 9 = .ok (.putfield 52, 3) := by decide +kernel
theorem dX3_blame_12 : decode cX3_blame 12 = .ok (.return_, 1) := by decide +kernel
theorem dX3_next_0 : decode cX3_next 0 = .ok (.aload_n 0, 1) := by decide +kernel
theorem dX3_next_1 : decode cX3_next 1 = .ok (.getfield 82, 3) := by decide +kernel
theorem dX3_next_4 : decode cX3_next 4 = .ok (.aload_n 0, 1) := by decide +kernel
theorem dX3_next_5 : decode cX3_next 5 = .ok (.getfield 15, 3) := by decide +kernel
theorem dX3_next_8 : decode cX3_next 8 = .ok (.if_icmp .ge 32, 3) := by decide +kernel
theorem dX3_next_11 : decode cX3_next 11 = .ok (.aload_n 0, 1) := by decide +kernel
theorem dX3_next_12 : decode cX3_next 12 = .ok (.getfield 9, 3) := by decide +kernel
theorem dX3_next_15 : decode cX3_next 15 = .ok (.aload_n 0, 1) := by decide +kernel
theorem dX3_next_16 : decode cX3_next 16 = .ok (.getfield 82, 3) := by decide +kernel
theorem dX3_next_19 : decode cX3_next 19 = .ok (.invokestatic 88, 3) := by decide +kernel
theorem dX3_next_22 : decode cX3_next 22 = .ok (.bipush 32, 2) := by decide +kernel
theorem dX3_next_24 : decode cX3_next 24 = .ok (.if_icmp .ne 16, 3) := by decide +kernel
theorem dX3_next_27 : decode cX3_next 27 = .ok (.aload_n 0, 1) := by decide +kernel
theorem dX3_next_28 : decode cX3_next 28 = .ok (.dup, 1) := by decide +kernel
theorem dX3_next_29 : decode cX3_next 29 = .ok (.getfield 82, 3) := by decide +kernel
theorem dX3_next_32 : decode cX3_next 32 = .ok (.iconst 1, 1) := by decide +kernel
theorem dX3_next_33 : decode cX3_next 33 = .ok (.iadd, 1) := by decide +kernel
theorem dX3_next_34 : decode cX3_next 34 = .ok (.putfield 82, 3) := by decide +kernel
theorem dX3_next_37 : decode cX3_next 37 = .ok (.goto (-37), 3) := by decide +kernel
theorem dX3_next_40 : decode cX3_next 40 = .ok (.aload_n 0, 1) := by decide +kernel
theorem dX3_next_41 : decode cX3_next 41 = .ok (.getfield 82, 3) := by decide +kernel
theorem dX3_next_44 : decode cX3_next 44 = .ok (.aload_n 0, 1) := by decide +kernel
theorem dX3_next_45 : decode cX3_next 45 = .ok (.getfield 15, 3) := by decide +kernel
theorem dX3_next_48 : decode cX3_next 48 = .ok (.if_icmp .ge 17, 3) := by decide +kernel
theorem dX3_next_51 : decode cX3_next 51 = .ok (.aload_n 0, 1) := by decide +kernel
theorem dX3_next_52 : decode cX3_next 52 = .ok (.getfield 9, 3) := by decide +kernel
theorem dX3_next_55 : decode cX3_next 55 = .ok (.aload_n 0, 1) := by decide +kernel
theorem dX3_next_56 : decode cX3_next 56 = .ok (.getfield 82, 3) := by decide +kernel
theorem dX3_next_59 : decode cX3_next 59 = .ok (.invokestatic 88, 3) := by decide +kernel
theorem dX3_next_62 : decode cX3_next 62 = .ok (.goto 4, 3) := by decide +kernel
theorem dX3_next_65 : decode cX3_next 65 = .ok (.iconst (-1), 1) := by decide +kernel
theorem dX3_next_66 : decode cX3_next 66 = .ok (.ireturn, 1) := by decide +kernel
theorem dX3_passes_0 : decode cX3_passes 0 = .ok (.aload_n 0, 1) := by decide +kernel
theorem dX3_passes_1 : decode cX3_passes 1 = .ok (.invokevirtual 68, 3) := by decide +kernel
theorem dX3_passes_4 : decode cX3_passes 4 = .ok (.iload_n 1, 1) := by decide +kernel
theorem dX3_passes_5 : decode cX3_passes 5 = .ok (.if_icmp .ne 7, 3) := by decide +kernel
theorem dX3_passes_8 : decode cX3_passes 8 = .ok (.iconst 1, 1) := by decide +kernel
theorem dX3_passes_9 : decode cX3_passes 9 = .ok (.goto 4, 3) := by decide +kernel
theorem dX3_passes_12 : decode cX3_passes 12 = .ok (.iconst 0, 1) := by decide +kernel
theorem dX3_passes_13 : decode cX3_passes 13 = .ok (.istore_n 2, 1) := by decide +kernel
theorem dX3_passes_14 : decode cX3_passes 14 = .ok (.iload_n 2, 1) := by decide +kernel
theorem dX3_passes_15 : decode cX3_passes 15 = .ok (.ifCond .eq 13, 3) := by decide +kernel
theorem dX3_passes_18 : decode cX3_passes 18 = .ok (.aload_n 0, 1) := by decide +kernel
theorem dX3_passes_19 : decode cX3_passes 19 = .ok (.dup, 1) := by decide +kernel
theorem dX3_passes_20 : decode cX3_passes 20 = .ok (.getfield 82, 3) := by decide +kernel
theorem dX3_passes_23 : decode cX3_passes 23 = .ok (.iconst 1, 1) := by decide +kernel
theorem dX3_passes_24 : decode cX3_passes 24 = .ok (.iadd, 1) := by decide +kernel
theorem dX3_passes_25 : decode cX3_passes 25 = .ok (.putfield 82, 3) := by decide +kernel
theorem dX3_passes_28 : decode cX3_passes 28 = .ok (.iload_n 2, 1) := by decide +kernel
theorem dX3_passes_29 : decode cX3_passes 29 = .ok (.ireturn, 1) := by decide +kernel
theorem dX3_readKind_0 : decode cX3_readKind 0 = .ok (.aload_n 0, 1) := by decide +kernel
theorem dX3_readKind_1 : decode cX3_readKind 1 = .ok (.bipush 112, 2) := by decide +kernel
theorem dX3_readKind_3 : decode cX3_readKind 3 = .ok (.invokevirtual 39, 3) := by decide +kernel
theorem dX3_readKind_6 : decode cX3_readKind 6 = .ok (.ifCond .eq 7, 3) := by decide +kernel
theorem dX3_readKind_9 : decode cX3_readKind 9 = .ok (.iconst 0, 1) := by decide +kernel
theorem dX3_readKind_10 : decode cX3_readKind 10 = .ok (.goto 43, 3) := by decide +kernel
theorem dX3_readKind_13 : decode cX3_readKind 13 = .ok (.aload_n 0, 1) := by decide +kernel
theorem dX3_readKind_14 : decode cX3_readKind 14 = .ok (.bipush 115, 2) := by decide +kernel
theorem dX3_readKind_16 : decode cX3_readKind 16 = .ok (.invokevirtual 39, 3) := by decide +kernel
theorem dX3_readKind_19 : decode cX3_readKind 19 = .ok (.ifCond .eq 7, 3) := by decide +kernel
theorem dX3_readKind_22 : decode cX3_readKind 22 = .ok (.iconst 1, 1) := by decide +kernel
theorem dX3_readKind_23 : decode cX3_readKind 23 = .ok (.goto 30, 3) := by decide +kernel
theorem dX3_readKind_26 : decode cX3_readKind 26 = .ok (.aload_n 0, 1) := by decide +kernel
theorem dX3_readKind_27 : decode cX3_readKind 27 = .ok (.bipush 107, 2) := by decide +kernel
theorem dX3_readKind_29 : decode cX3_readKind 29 = .ok (.invokevirtual 39, 3) := by decide +kernel
theorem dX3_readKind_32 : decode cX3_readKind 32 = .ok (.ifCond .eq 7, 3) := by decide +kernel
theorem dX3_readKind_35 : decode cX3_readKind 35 = .ok (.iconst 2, 1) := by decide +kernel
theorem dX3_readKind_36 : decode cX3_readKind 36 = .ok (.goto 17, 3) := by decide +kernel
theorem dX3_readKind_39 : decode cX3_readKind 39 = .ok (.aload_n 0, 1) := by decide +kernel
theorem dX3_readKind_40 : decode cX3_readKind 40 = .ok (.bipush 116, 2) := by decide +kernel
theorem dX3_readKind_42 : decode cX3_readKind 42 = .ok (.invokevirtual 39, 3) := by decide +kernel
theorem dX3_readKind_45 : decode cX3_readKind 45 = .ok (.ifCond .eq 7, 3) := by decide +kernel
theorem dX3_readKind_48 : decode cX3_readKind 48 = .ok (.iconst 3, 1) := by decide +kernel
theorem dX3_readKind_49 : decode cX3_readKind 49 = .ok (.goto 4, 3) := by decide +kernel
theorem dX3_readKind_52 : decode cX3_readKind 52 = .ok (.iconst (-1), 1) := by decide +kernel
theorem dX3_readKind_53 : decode cX3_readKind 53 = .ok (.istore_n 1, 1) := by decide +kernel
theorem dX3_readKind_54 : decode cX3_readKind 54 = .ok (.iload_n 1, 1) := by decide +kernel
theorem dX3_readKind_55 : decode cX3_readKind 55 = .ok (.iconst (-1), 1) := by decide +kernel
theorem dX3_readKind_56 : decode cX3_readKind 56 = .ok (.if_icmp .ne 11, 3) := by decide +kernel
theorem dX3_readKind_59 : decode cX3_readKind 59 = .ok (.aload_n 0, 1) := by decide +kernel
theorem dX3_readKind_60 : decode cX3_readKind 60 = .ok (.aload_n 0, 1) := by decide +kernel
theorem dX3_readKind_61 : decode cX3_readKind 61 = .ok (.getfield 82, 3) := by decide +kernel
theorem dX3_readKind_64 : decode cX3_readKind 64 = .ok (.invokevirtual 85, 3) := by decide +kernel
theorem dX3_readKind_67 : decode cX3_readKind 67 = .ok (.iload_n 1, 1) := by decide +kernel
theorem dX3_readKind_68 : decode cX3_readKind 68 = .ok (.ireturn, 1) := by decide +kernel
theorem dX3_readDigit_0 : decode cX3_readDigit 0 = .ok (.aload_n 0, 1) := by decide +kernel
theorem dX3_readDigit_1 : decode cX3_readDigit 1 = .ok (.invokevirtual 68, 3) := by decide +kernel
theorem dX3_readDigit_4 : decode cX3_readDigit 4 = .ok (.bipush 48, 2) := by decide +kernel
theorem dX3_readDigit_6 : decode cX3_readDigit 6 = .ok (.isub, 1) := by decide +kernel
theorem dX3_readDigit_7 : decode cX3_readDigit 7 = .ok (.istore_n 2, 1) := by decide +kernel
theorem dX3_readDigit_8 : decode cX3_readDigit 8 = .ok (.iload_n 2, 1) := by decide +kernel
theorem dX3_readDigit_9 : decode cX3_readDigit 9 = .ok (.iconst 0, 1) := by decide +kernel
theorem dX3_readDigit_10 : decode cX3_readDigit 10 = .ok (.iload_n 1, 1) := by decide +kernel
theorem dX3_readDigit_11 : decode cX3_readDigit 11 = .ok (.invokestatic 71, 3) := by decide +kernel
theorem dX3_readDigit_14 : decode cX3_readDigit 14 = .ok (.ifCond .ne 13, 3) := by decide +kernel
theorem dX3_readDigit_17 : decode cX3_readDigit 17 = .ok (.aload_n 0, 1) := by decide +kernel
theorem dX3_readDigit_18 : decode cX3_readDigit 18 = .ok (.aload_n 0, 1) := by decide +kernel
theorem dX3_readDigit_19 : decode cX3_readDigit 19 = .ok (.getfield 82, 3) := by decide +kernel
theorem dX3_readDigit_22 : decode cX3_readDigit 22 = .ok (.invokevirtual 85, 3) := by decide +kernel
theorem dX3_readDigit_25 : decode cX3_readDigit 25 = .ok (.iconst 0, 1) := by decide +kernel
theorem dX3_readDigit_26 : decode cX3_readDigit 26 = .ok (.ireturn, 1) := by decide +kernel
theorem dX3_readDigit_27 : decode cX3_readDigit 27 = .ok (.aload_n 0, 1) := by decide +kernel
theorem dX3_readDigit_28 : decode cX3_readDigit 28 = .ok (.dup, 1) := by decide +kernel
theorem dX3_readDigit_29 : decode cX3_readDigit 29 = .ok (.getfield 82, 3) := by decide +kernel
theorem dX3_readDigit_32 : decode cX3_readDigit 32 = .ok (.iconst 1, 1) := by decide +kernel
theorem dX3_readDigit_33 : decode cX3_readDigit 33 = .ok (.iadd, 1) := by decide +kernel
theorem dX3_readDigit_34 : decode cX3_readDigit 34 = .ok (.putfield 82, 3) := by decide +kernel
theorem dX3_readDigit_37 : decode cX3_readDigit 37 = .ok (.iload_n 2, 1) := by decide +kernel
theorem dX3_readDigit_38 : decode cX3_readDigit 38 = .ok (.ireturn, 1) := by decide +kernel
theorem dX3_readNumber_0 : decode cX3_readNumber 0 = .ok (.aload_n 0, 1) := by decide +kernel
theorem dX3_readNumber_1 : decode cX3_readNumber 1 = .ok (.invokevirtual 68, 3) := by decide +kernel
theorem dX3_readNumber_4 : decode cX3_readNumber 4 = .ok (.bipush 48, 2) := by decide +kernel
theorem dX3_readNumber_6 : decode cX3_readNumber 6 = .ok (.bipush 57, 2) := by decide +kernel
theorem dX3_readNumber_8 : decode cX3_readNumber 8 = .ok (.invokestatic 71, 3) := by decide +kernel
theorem dX3_readNumber_11 : decode cX3_readNumber 11 = .ok (.ifCond .ne 13, 3) := by decide +kernel
theorem dX3_readNumber_14 : decode cX3_readNumber 14 = .ok (.aload_n 0, 1) := by decide +kernel
theorem dX3_readNumber_15 : decode cX3_readNumber 15 = .ok (.aload_n 0, 1) := by decide +kernel
theorem dX3_readNumber_16 : decode cX3_readNumber 16 = .ok (.getfield 82, 3) := by decide +kernel
theorem dX3_readNumber_19 : decode cX3_readNumber 19 = .ok (.invokevirtual 85, 3) := by decide +kernel
theorem dX3_readNumber_22 : decode cX3_readNumber 22 = .ok (.iconst 0, 1) := by decide +kernel
theorem dX3_readNumber_23 : decode cX3_readNumber 23 = .ok (.ireturn, 1) := by decide +kernel
theorem dX3_readNumber_24 : decode cX3_readNumber 24 = .ok (.aload_n 0, 1) := by decide +kernel
theorem dX3_readNumber_25 : decode cX3_readNumber 25 = .ok (.getfield 82, 3) := by decide +kernel
theorem dX3_readNumber_28 : decode cX3_readNumber 28 = .ok (.istore_n 3, 1) := by decide +kernel
theorem dX3_readNumber_29 : decode cX3_readNumber 29 = .ok (.iconst 0, 1) := by decide +kernel
theorem dX3_readNumber_30 : decode cX3_readNumber 30 = .ok (.istore 4, 2) := by decide +kernel
theorem dX3_readNumber_32 : decode cX3_readNumber 32 = .ok (.aload_n 0, 1) := by decide +kernel
theorem dX3_readNumber_33 : decode cX3_readNumber 33 = .ok (.getfield 82, 3) := by decide +kernel
theorem dX3_readNumber_36 : decode cX3_readNumber 36 = .ok (.aload_n 0, 1) := by decide +kernel
theorem dX3_readNumber_37 : decode cX3_readNumber 37 = .ok (.getfield 15, 3) := by decide +kernel
theorem dX3_readNumber_40 : decode cX3_readNumber 40 = .ok (.if_icmp .ge 64, 3) := by decide +kernel
theorem dX3_readNumber_43 : decode cX3_readNumber 43 = .ok (.aload_n 0, 1) := by decide +kernel
theorem dX3_readNumber_44 : decode cX3_readNumber 44 = .ok (.getfield 9, 3) := by decide +kernel
theorem dX3_readNumber_47 : decode cX3_readNumber 47 = .ok (.aload_n 0, 1) := by decide +kernel
theorem dX3_readNumber_48 : decode cX3_readNumber 48 = .ok (.getfield 82, 3) := by decide +kernel
theorem dX3_readNumber_51 : decode cX3_readNumber 51 = .ok (.invokestatic 88, 3) := by decide +kernel
theorem dX3_readNumber_54 : decode cX3_readNumber 54 = .ok (.bipush 48, 2) := by decide +kernel
theorem dX3_readNumber_56 : decode cX3_readNumber 56 = .ok (.bipush 57, 2) := by decide +kernel
theorem dX3_readNumber_58 : decode cX3_readNumber 58 = .ok (.invokestatic 71, 3) := by decide +kernel
theorem dX3_readNumber_61 : decode cX3_readNumber 61 = .ok (.ifCond .eq 43, 3) := by decide +kernel
theorem dX3_readNumber_64 : decode cX3_readNumber 64 = .ok (.iload 4, 2) := by decide +kernel
theorem dX3_readNumber_66 : decode cX3_readNumber 66 = .ok (.bipush 10, 2) := by decide +kernel
theorem dX3_readNumber_68 : decode cX3_readNumber 68 = .ok (.imul, 1) := by decide +kernel
theorem dX3_readNumber_69 : decode cX3_readNumber 69 = .ok (.aload_n 0, 1) := by decide +kernel
theorem dX3_readNumber_70 : decode cX3_readNumber 70 = .ok (.getfield 9, 3) := by decide +kernel
theorem dX3_readNumber_73 : decode cX3_readNumber 73 = .ok (.aload_n 0, 1) := by decide +kernel
theorem dX3_readNumber_74 : decode cX3_readNumber 74 = .ok (.getfield 82, 3) := by decide +kernel
theorem dX3_readNumber_77 : decode cX3_readNumber 77 = .ok (.invokestatic 88, 3) := by decide +kernel
theorem dX3_readNumber_80 : decode cX3_readNumber 80 = .ok (.iadd, 1) := by decide +kernel
theorem dX3_readNumber_81 : decode cX3_readNumber 81 = .ok (.bipush 48, 2) := by decide +kernel
theorem dX3_readNumber_83 : decode cX3_readNumber 83 = .ok (.isub, 1) := by decide +kernel
theorem dX3_readNumber_84 : decode cX3_readNumber 84 = .ok (.ldc 92, 2) := by decide +kernel
theorem dX3_readNumber_86 : decode cX3_readNumber 86 = .ok (.invokestatic 93, 3) := by decide +kernel
theorem dX3_readNumber_89 : decode cX3_readNumber 89 = .ok (.istore 4, 2) := by decide +kernel
theorem dX3_readNumber_91 : decode cX3_readNumber 91 = .ok (.aload_n 0, 1) := by decide +kernel
theorem dX3_readNumber_92 : decode cX3_readNumber 92 = .ok (.dup, 1) := by decide +kernel
theorem dX3_readNumber_93 : decode cX3_readNumber 93 = .ok (.getfield 82, 3) := by decide +kernel
theorem dX3_readNumber_96 : decode cX3_readNumber 96 = .ok (.iconst 1, 1) := by decide +kernel
theorem dX3_readNumber_97 : decode cX3_readNumber 97 = .ok (.iadd, 1) := by decide +kernel
theorem dX3_readNumber_98 : decode cX3_readNumber 98 = .ok (.putfield 82, 3) := by decide +kernel
theorem dX3_readNumber_101 : decode cX3_readNumber 101 = .ok (.goto (-69), 3) := by decide +kernel
theorem dX3_readNumber_104 : decode cX3_readNumber 104 = .ok (.iload 4, 2) := by decide +kernel
theorem dX3_readNumber_106 : decode cX3_readNumber 106 = .ok (.iload_n 1, 1) := by decide +kernel
theorem dX3_readNumber_107 : decode cX3_readNumber 107 = .ok (.iload_n 2, 1) := by decide +kernel
theorem dX3_readNumber_108 : decode cX3_readNumber 108 = .ok (.invokestatic 71, 3) := by decide +kernel
theorem dX3_readNumber_111 : decode cX3_readNumber 111 = .ok (.ifCond .ne 8, 3) := by decide +kernel
theorem dX3_readNumber_114 : decode cX3_readNumber 114 = .ok (.aload_n 0, 1) := by decide +kernel
theorem dX3_readNumber_115 : decode cX3_readNumber 115 = .ok (.iload_n 3, 1) := by decide +kernel
theorem dX3_readNumber_116 : decode cX3_readNumber 116 = .ok (.invokevirtual 85, 3) := by decide +kernel
theorem dX3_readNumber_119 : decode cX3_readNumber 119 = .ok (.iload 4, 2) := by decide +kernel
theorem dX3_readNumber_121 : decode cX3_readNumber 121 = .ok (.ireturn, 1) := by decide +kernel
theorem dX4_init_0 : decode cX4_init 0 = .ok (.aload_n 0, 1) := by decide +kernel
theorem dX4_init_1 : decode cX4_init 1 = .ok (.invokespecial 1, 3) := by decide +kernel
theorem dX4_init_4 : decode cX4_init 4 = .ok (.aload_n 0, 1) := by decide +kernel
theorem dX4_init_5 : decode cX4_init 5 = .ok (.new 7, 3) := by decide +kernel
theorem dX4_init_8 : decode cX4_init 8 = .ok (.dup, 1) := by decide +kernel
theorem dX4_init_9 : decode cX4_init 9 = .ok (.invokespecial 9, 3) := by decide +kernel
theorem dX4_init_12 : decode cX4_init 12 = .ok (.putfield 10, 3) := by decide +kernel
theorem dX4_init_15 : decode cX4_init 15 = .ok (.aload_n 0, 1) := by decide +kernel
theorem dX4_init_16 : decode cX4_init 16 = .ok (.new 7, 3) := by decide +kernel
theorem dX4_init_19 : decode cX4_init 19 = .ok (.dup, 1) := by decide +kernel
theorem dX4_init_20 : decode cX4_init 20 = .ok (.invokespecial 9, 3) := by decide +kernel
theorem dX4_init_23 : decode cX4_init 23 = .ok (.putfield 16, 3) := by decide +kernel
theorem dX4_init_26 : decode cX4_init 26 = .ok (.aload_n 0, 1) := by decide +kernel
theorem dX4_init_27 : decode cX4_init 27 = .ok (.new 7, 3) := by decide +kernel
theorem dX4_init_30 : decode cX4_init 30 = .ok (.dup, 1) := by decide +kernel
theorem dX4_init_31 : decode cX4_init 31 = .ok (.invokespecial 9, 3) := by decide +kernel
theorem dX4_init_34 : decode cX4_init 34 = .ok (.putfield 19, 3) := by decide +kernel
theorem dX4_init_37 : decode cX4_init 37 = .ok (.aload_n 0, 1) := by decide +kernel
theorem dX4_init_38 : decode cX4_init 38 = .ok (.iconst 0, 1) := by decide +kernel
theorem dX4_init_39 : decode cX4_init 39 = .ok (.putfield 22, 3) := by decide +kernel
theorem dX4_init_42 : decode cX4_init 42 = .ok (.aload_n 0, 1) := by decide +kernel
theorem dX4_init_43 : decode cX4_init 43 = .ok (.new 26, 3) := by decide +kernel
theorem dX4_init_46 : decode cX4_init 46 = .ok (.dup, 1) := by decide +kernel
theorem dX4_init_47 : decode cX4_init 47 = .ok (.invokespecial 28, 3) := by decide +kernel
theorem dX4_init_50 : decode cX4_init 50 = .ok (.putfield 29, 3) := by decide +kernel
theorem dX4_init_53 : decode cX4_init 53 = .ok (.aload_n 0, 1) := by decide +kernel
theorem dX4_init_54 : decode cX4_init 54 = .ok (.new 33, 3) := by decide +kernel
theorem dX4_init_57 : decode cX4_init 57 = .ok (.dup, 1) := by decide +kernel
theorem dX4_init_58 : decode cX4_init 58 = .ok (.invokespecial 35, 3) := by decide +kernel
theorem dX4_init_61 : decode cX4_init 61 = .ok (.putfield 36, 3) := by decide +kernel
theorem dX4_init_64 : decode cX4_init 64 = .ok (.aload_n 0, 1) := by decide +kernel
theorem dX4_init_65 : decode cX4_init 65 = .ok (.iconst 4, 1) := by decide +kernel
theorem dX4_init_66 : decode cX4_init 66 = .ok (.anewarray 40, 3) := by decide +kernel
theorem dX4_init_69 : decode cX4_init 69 = .ok (.putfield 42, 3) := by decide +kernel
theorem dX4_init_72 : decode cX4_init 72 = .ok (.iconst 0, 1) := by decide +kernel
theorem dX4_init_73 : decode cX4_init 73 = .ok (.istore_n 1, 1) := by decide +kernel
theorem dX4_init_74 : decode cX4_init 74 = .ok (.iload_n 1, 1) := by decide +kernel
theorem dX4_init_75 : decode cX4_init 75 = .ok (.aload_n 0, 1) := by decide +kernel
theorem dX4_init_76 : decode cX4_init 76 = .ok (.getfield 42, 3) := by decide +kernel
theorem dX4_init_79 : decode cX4_init 79 = .ok (.arraylength, 1) := by decide +kernel
theorem dX4_init_80 : decode cX4_init 80 = .ok (.if_icmp .ge 22, 3) := by decide +kernel
theorem dX4_init_83 : decode cX4_init 83 = .ok (.aload_n 0, 1) := by decide +kernel
theorem dX4_init_84 : decode cX4_init 84 = .ok (.getfield 42, 3) := by decide +kernel
theorem dX4_init_87 : decode cX4_init 87 = .ok (.iload_n 1, 1) := by decide +kernel
theorem dX4_init_88 : decode cX4_init 88 = .ok (.new 40, 3) := by decide +kernel
theorem dX4_init_91 : decode cX4_init 91 = .ok (.dup, 1) := by decide +kernel
theorem dX4_init_92 : decode cX4_init 92 = .ok (.invokespecial 46, 3) := by decide +kernel
theorem dX4_init_95 : decode cX4_init 95 = .ok (.aastore, 1) := by decide +kernel
theorem dX4_init_96 : decode cX4_init 96 = .ok (.iinc 1 1, 3) := by decide +kernel
theorem dX4_init_99 : decode cX4_init 99 = .ok (.goto (-25), 3) := by decide +kernel
theorem dX4_init_102 : decode cX4_init 102 = .ok (.return_, 1) := by decide +kernel
theorem dX4_grain_0 : decode cX4_grain 0 = .ok (.iload_n 1, 1) := by decide +kernel
theorem dX4_grain_1 : decode cX4_grain 1 = .ok (.iconst 1, 1) := by decide +kernel
theorem dX4_grain_2 : decode cX4_grain 2 = .ok (.bipush 60, 2) := by decide +kernel
theorem dX4_grain_4 : decode cX4_grain 4 = .ok (.invokestatic 47, 3) := by decide +kernel
theorem dX4_grain_7 : decode cX4_grain 7 = .ok (.ifCond .eq 24, 3) := by decide +kernel
theorem dX4_grain_10 : decode cX4_grain 10 = .ok (.iload_n 2, 1) := by decide +kernel
theorem dX4_grain_11 : decode cX4_grain 11 = .ok (.iconst 0, 1) := by decide +kernel
theorem dX4_grain_12 : decode cX4_grain 12 = .ok (.sipush 9999, 3) := by decide +kernel
theorem dX4_grain_15 : decode cX4_grain 15 = .ok (.invokestatic 47, 3) := by decide +kernel
theorem dX4_grain_18 : decode cX4_grain 18 = .ok (.ifCond .eq 13, 3) := by decide +kernel
theorem dX4_grain_21 : decode cX4_grain 21 = .ok (.iload_n 3, 1) := by decide +kernel
theorem dX4_grain_22 : decode cX4_grain 22 = .ok (.iconst 0, 1) := by decide +kernel
theorem dX4_grain_23 : decode cX4_grain 23 = .ok (.bipush 99, 2) := by decide +kernel
theorem dX4_grain_25 : decode cX4_grain 25 = .ok (.invokestatic 47, 3) := by decide +kernel
theorem dX4_grain_28 : decode cX4_grain 28 = .ok (.ifCond .ne 5, 3) := by decide +kernel
theorem dX4_grain_31 : decode cX4_grain 31 = .ok (.iconst (-1), 1) := by decide +kernel
theorem dX4_grain_32 : decode cX4_grain 32 = .ok (.ireturn, 1) := by decide +kernel
theorem dX4_grain_33 : decode cX4_grain 33 = .ok (.aload_n 0, 1) := by decide +kernel
theorem dX4_grain_34 : decode cX4_grain 34 = .ok (.getfield 10, 3) := by decide +kernel
theorem dX4_grain_37 : decode cX4_grain 37 = .ok (.getfield 51, 3) := by decide +kernel
theorem dX4_grain_40 : decode cX4_grain 40 = .ok (.bipush 6, 2) := by decide +kernel
theorem dX4_grain_42 : decode cX4_grain 42 = .ok (.if_icmp .lt 8, 3) := by decide +kernel
theorem dX4_grain_45 : decode cX4_grain 45 = .ok (.bipush (-3), 2) := by decide +kernel
theorem dX4_grain_47 : decode cX4_grain 47 = .ok (.goto 13, 3) := by decide +kernel
theorem dX4_grain_50 : decode cX4_grain 50 = .ok (.aload_n 0, 1) := by decide +kernel
theorem dX4_grain_51 : decode cX4_grain 51 = .ok (.getfield 10, 3) := by decide +kernel
theorem dX4_grain_54 : decode cX4_grain 54 = .ok (.iload_n 1, 1) := by decide +kernel
theorem dX4_grain_55 : decode cX4_grain 55 = .ok (.iload_n 2, 1) := by decide +kernel
theorem dX4_grain_56 : decode cX4_grain 56 = .ok (.iload_n 3, 1) := by decide +kernel
theorem dX4_grain_57 : decode cX4_grain 57 = .ok (.invokevirtual 55, 3) := by decide +kernel
theorem dX4_grain_60 : decode cX4_grain 60 = .ok (.ireturn, 1) := by decide +kernel
theorem dX4_set_0 : decode cX4_set 0 = .ok (.aload_n 0, 1) := by decide +kernel
theorem dX4_set_1 : decode cX4_set 1 = .ok (.getfield 10, 3) := by decide +kernel
theorem dX4_set_4 : decode cX4_set 4 = .ok (.iload_n 1, 1) := by decide +kernel
theorem dX4_set_5 : decode cX4_set 5 = .ok (.invokevirtual 59, 3) := by decide +kernel
theorem dX4_set_8 : decode cX4_set 8 = .ok (.ifCond .ne 5, 3) := by decide +kernel
theorem dX4_set_11 : decode cX4_set 11 = .ok (.iconst (-1), 1) := by decide +kernel
theorem dX4_set_12 : decode cX4_set 12 = .ok (.ireturn, 1) := by decide +kernel
theorem dX4_set_13 : decode cX4_set 13 = .ok (.iload_n 2, 1) := by decide +kernel
theorem dX4_set_14 : decode cX4_set 14 = .ok (.tableswitch 108 0 2 #[26, 53, 81], 26) := by decide +kernel
theorem dX4_set_40 : decode cX4_set 40 = .ok (.iload_n 3, 1) := by decide +kernel
theorem dX4_set_41 : decode cX4_set 41 = .ok (.iconst 1, 1) := by decide +kernel
theorem dX4_set_42 : decode cX4_set 42 = .ok (.bipush 60, 2) := by decide +kernel
theorem dX4_set_44 : decode cX4_set 44 = .ok (.invokestatic 47, 3) := by decide +kernel
theorem dX4_set_47 : decode cX4_set 47 = .ok (.ifCond .eq 18, 3) := by decide +kernel
theorem dX4_set_50 : decode cX4_set 50 = .ok (.aload_n 0, 1) := by decide +kernel
theorem dX4_set_51 : decode cX4_set 51 = .ok (.getfield 10, 3) := by decide +kernel
theorem dX4_set_54 : decode cX4_set 54 = .ok (.getfield 63, 3) := by decide +kernel
theorem dX4_set_57 : decode cX4_set 57 = .ok (.iload_n 1, 1) := by decide +kernel
theorem dX4_set_58 : decode cX4_set 58 = .ok (.iload_n 3, 1) := by decide +kernel
theorem dX4_set_59 : decode cX4_set 59 = .ok (.invokestatic 67, 3) := by decide +kernel
theorem dX4_set_62 : decode cX4_set 62 = .ok (.goto 4, 3) := by decide +kernel
theorem dX4_set_65 : decode cX4_set 65 = .ok (.iconst (-1), 1) := by decide +kernel
theorem dX4_set_66 : decode cX4_set 66 = .ok (.ireturn, 1) := by decide +kernel
theorem dX4_set_67 : decode cX4_set 67 = .ok (.iload_n 3, 1) := by decide +kernel
theorem dX4_set_68 : decode cX4_set 68 = .ok (.iconst 0, 1) := by decide +kernel
theorem dX4_set_69 : decode cX4_set 69 = .ok (.sipush 9999, 3) := by decide +kernel
theorem dX4_set_72 : decode cX4_set 72 = .ok (.invokestatic 47, 3) := by decide +kernel
theorem dX4_set_75 : decode cX4_set 75 = .ok (.ifCond .eq 18, 3) := by decide +kernel
theorem dX4_set_78 : decode cX4_set 78 = .ok (.aload_n 0, 1) := by decide +kernel
theorem dX4_set_79 : decode cX4_set 79 = .ok (.getfield 10, 3) := by decide +kernel
theorem dX4_set_82 : decode cX4_set 82 = .ok (.getfield 71, 3) := by decide +kernel
theorem dX4_set_85 : decode cX4_set 85 = .ok (.iload_n 1, 1) := by decide +kernel
theorem dX4_set_86 : decode cX4_set 86 = .ok (.iload_n 3, 1) := by decide +kernel
theorem dX4_set_87 : decode cX4_set 87 = .ok (.invokestatic 67, 3) := by decide +kernel
theorem dX4_set_90 : decode cX4_set 90 = .ok (.goto 4, 3) := by decide +kernel
theorem dX4_set_93 : decode cX4_set 93 = .ok (.iconst (-1), 1) := by decide +kernel
theorem dX4_set_94 : decode cX4_set 94 = .ok (.ireturn, 1) := by decide +kernel
theorem dX4_set_95 : decode cX4_set 95 = .ok (.iload_n 3, 1) := by decide +kernel
theorem dX4_set_96 : decode cX4_set 96 = .ok (.iconst 0, 1) := by decide +kernel
theorem dX4_set_97 : decode cX4_set 97 = .ok (.bipush 99, 2) := by decide +kernel
theorem dX4_set_99 : decode cX4_set 99 = .ok (.invokestatic 47, 3) := by decide +kernel
theorem dX4_set_102 : decode cX4_set 102 = .ok (.ifCond .eq 18, 3) := by decide +kernel
theorem dX4_set_105 : decode cX4_set 105 = .ok (.aload_n 0, 1) := by decide +kernel
theorem dX4_set_106 : decode cX4_set 106 = .ok (.getfield 10, 3) := by decide +kernel
theorem dX4_set_109 : decode cX4_set 109 = .ok (.getfield 74, 3) := by decide +kernel
theorem dX4_set_112 : decode cX4_set 112 = .ok (.iload_n 1, 1) := by decide +kernel
theorem dX4_set_113 : decode cX4_set 113 = .ok (.iload_n 3, 1) := by decide +kernel
theorem dX4_set_114 : decode cX4_set 114 = .ok (.invokestatic 67, 3) := by decide +kernel
theorem dX4_set_117 : decode cX4_set 117 = .ok (.goto 4, 3) := by decide +kernel
theorem dX4_set_120 : decode cX4_set 120 = .ok (.iconst (-1), 1) := by decide +kernel
theorem dX4_set_121 : decode cX4_set 121 = .ok (.ireturn, 1) := by decide +kernel
theorem dX4_set_122 : decode cX4_set 122 = .ok (.iconst (-1), 1) := by decide +kernel
theorem dX4_set_123 : decode cX4_set 123 = .ok (.ireturn, 1) := by decide +kernel
theorem dX4_sieve_0 : decode cX4_sieve 0 = .ok (.iload_n 1, 1) := by decide +kernel
theorem dX4_sieve_1 : decode cX4_sieve 1 = .ok (.iconst 0, 1) := by decide +kernel
theorem dX4_sieve_2 : decode cX4_sieve 2 = .ok (.iconst 3, 1) := by decide +kernel
theorem dX4_sieve_3 : decode cX4_sieve 3 = .ok (.invokestatic 47, 3) := by decide +kernel
theorem dX4_sieve_6 : decode cX4_sieve 6 = .ok (.ifCond .eq 33, 3) := by decide +kernel
theorem dX4_sieve_9 : decode cX4_sieve 9 = .ok (.iload_n 2, 1) := by decide +kernel
theorem dX4_sieve_10 : decode cX4_sieve 10 = .ok (.iconst 1, 1) := by decide +kernel
theorem dX4_sieve_11 : decode cX4_sieve 11 = .ok (.bipush 60, 2) := by decide +kernel
theorem dX4_sieve_13 : decode cX4_sieve 13 = .ok (.invokestatic 47, 3) := by decide +kernel
theorem dX4_sieve_16 : decode cX4_sieve 16 = .ok (.ifCond .eq 23, 3) := by decide +kernel
theorem dX4_sieve_19 : decode cX4_sieve 19 = .ok (.iload_n 3, 1) := by decide +kernel
theorem dX4_sieve_20 : decode cX4_sieve 20 = .ok (.iconst 1, 1) := by decide +kernel
theorem dX4_sieve_21 : decode cX4_sieve 21 = .ok (.ldc 77, 2) := by decide +kernel
theorem dX4_sieve_23 : decode cX4_sieve 23 = .ok (.invokestatic 47, 3) := by decide +kernel
theorem dX4_sieve_26 : decode cX4_sieve 26 = .ok (.ifCond .eq 13, 3) := by decide +kernel
theorem dX4_sieve_29 : decode cX4_sieve 29 = .ok (.iload 4, 2) := by decide +kernel
theorem dX4_sieve_31 : decode cX4_sieve 31 = .ok (.iconst 0, 1) := by decide +kernel
theorem dX4_sieve_32 : decode cX4_sieve 32 = .ok (.iconst 3, 1) := by decide +kernel
theorem dX4_sieve_33 : decode cX4_sieve 33 = .ok (.invokestatic 47, 3) := by decide +kernel
theorem dX4_sieve_36 : decode cX4_sieve 36 = .ok (.ifCond .ne 5, 3) := by decide +kernel
theorem dX4_sieve_39 : decode cX4_sieve 39 = .ok (.iconst (-1), 1) := by decide +kernel
theorem dX4_sieve_40 : decode cX4_sieve 40 = .ok (.ireturn, 1) := by decide +kernel
theorem dX4_sieve_41 : decode cX4_sieve 41 = .ok (.aload_n 0, 1) := by decide +kernel
theorem dX4_sieve_42 : decode cX4_sieve 42 = .ok (.getfield 10, 3) := by decide +kernel
theorem dX4_sieve_45 : decode cX4_sieve 45 = .ok (.getfield 78, 3) := by decide +kernel
theorem dX4_sieve_48 : decode cX4_sieve 48 = .ok (.bipush 8, 2) := by decide +kernel
theorem dX4_sieve_50 : decode cX4_sieve 50 = .ok (.if_icmp .lt 8, 3) := by decide +kernel
theorem dX4_sieve_53 : decode cX4_sieve 53 = .ok (.bipush (-3), 2) := by decide +kernel
theorem dX4_sieve_55 : decode cX4_sieve 55 = .ok (.goto 15, 3) := by decide +kernel
theorem dX4_sieve_58 : decode cX4_sieve 58 = .ok (.aload_n 0, 1) := by decide +kernel
theorem dX4_sieve_59 : decode cX4_sieve 59 = .ok (.getfield 10, 3) := by decide +kernel
theorem dX4_sieve_62 : decode cX4_sieve 62 = .ok (.iload_n 1, 1) := by decide +kernel
theorem dX4_sieve_63 : decode cX4_sieve 63 = .ok (.iload_n 2, 1) := by decide +kernel
theorem dX4_sieve_64 : decode cX4_sieve 64 = .ok (.iload_n 3, 1) := by decide +kernel
theorem dX4_sieve_65 : decode cX4_sieve 65 = .ok (.iload 4, 2) := by decide +kernel
theorem dX4_sieve_67 : decode cX4_sieve 67 = .ok (.invokevirtual 81, 3) := by decide +kernel
theorem dX4_sieve_70 : decode cX4_sieve 70 = .ok (.ireturn, 1) := by decide +kernel
theorem dX4_told_0 : decode cX4_told 0 = .ok (.aload_n 0, 1) := by decide +kernel
theorem dX4_told_1 : decode cX4_told 1 = .ok (.getfield 10, 3) := by decide +kernel
theorem dX4_told_4 : decode cX4_told 4 = .ok (.iload_n 1, 1) := by decide +kernel
theorem dX4_told_5 : decode cX4_told 5 = .ok (.invokevirtual 85, 3) := by decide +kernel
theorem dX4_told_8 : decode cX4_told 8 = .ok (.ifCond .ne 5, 3) := by decide +kernel
theorem dX4_told_11 : decode cX4_told 11 = .ok (.iconst (-1), 1) := by decide +kernel
theorem dX4_told_12 : decode cX4_told 12 = .ok (.ireturn, 1) := by decide +kernel
theorem dX4_told_13 : decode cX4_told 13 = .ok (.iload_n 2, 1) := by decide +kernel
theorem dX4_told_14 : decode cX4_told 14 = .ok (.tableswitch 78 0 3 #[30, 42, 54, 66], 30) := by decide +kernel
theorem dX4_told_44 : decode cX4_told 44 = .ok (.aload_n 0, 1) := by decide +kernel
theorem dX4_told_45 : decode cX4_told 45 = .ok (.getfield 10, 3) := by decide +kernel
theorem dX4_told_48 : decode cX4_told 48 = .ok (.getfield 88, 3) := by decide +kernel
theorem dX4_told_51 : decode cX4_told 51 = .ok (.iload_n 1, 1) := by decide +kernel
theorem dX4_told_52 : decode cX4_told 52 = .ok (.invokestatic 91, 3) := by decide +kernel
theorem dX4_told_55 : decode cX4_told 55 = .ok (.ireturn, 1) := by decide +kernel
theorem dX4_told_56 : decode cX4_told 56 = .ok (.aload_n 0, 1) := by decide +kernel
theorem dX4_told_57 : decode cX4_told 57 = .ok (.getfield 10, 3) := by decide +kernel
theorem dX4_told_60 : decode cX4_told 60 = .ok (.getfield 95, 3) := by decide +kernel
theorem dX4_told_63 : decode cX4_told 63 = .ok (.iload_n 1, 1) := by decide +kernel
theorem dX4_told_64 : decode cX4_told 64 = .ok (.invokestatic 91, 3) := by decide +kernel
theorem dX4_told_67 : decode cX4_told 67 = .ok (.ireturn, 1) := by decide +kernel
theorem dX4_told_68 : decode cX4_told 68 = .ok (.aload_n 0, 1) := by decide +kernel
theorem dX4_told_69 : decode cX4_told 69 = .ok (.getfield 10, 3) := by decide +kernel
theorem dX4_told_72 : decode cX4_told 72 = .ok (.getfield 98, 3) := by decide +kernel
theorem dX4_told_75 : decode cX4_told 75 = .ok (.iload_n 1, 1) := by decide +kernel
theorem dX4_told_76 : decode cX4_told 76 = .ok (.invokestatic 91, 3) := by decide +kernel
theorem dX4_told_79 : decode cX4_told 79 = .ok (.ireturn, 1) := by decide +kernel
theorem dX4_told_80 : decode cX4_told 80 = .ok (.aload_n 0, 1) := by decide +kernel
theorem dX4_told_81 : decode cX4_told 81 = .ok (.getfield 10, 3) := by decide +kernel
theorem dX4_told_84 : decode cX4_told 84 = .ok (.getfield 101, 3) := by decide +kernel
theorem dX4_told_87 : decode cX4_told 87 = .ok (.iload_n 1, 1) := by decide +kernel
theorem dX4_told_88 : decode cX4_told 88 = .ok (.invokestatic 91, 3) := by decide +kernel
theorem dX4_told_91 : decode cX4_told 91 = .ok (.ireturn, 1) := by decide +kernel
theorem dX4_told_92 : decode cX4_told 92 = .ok (.iconst (-1), 1) := by decide +kernel
theorem dX4_told_93 : decode cX4_told 93 = .ok (.ireturn, 1) := by decide +kernel
theorem dX4_mend_0 : decode cX4_mend 0 = .ok (.aload_n 0, 1) := by decide +kernel
theorem dX4_mend_1 : decode cX4_mend 1 = .ok (.getfield 10, 3) := by decide +kernel
theorem dX4_mend_4 : decode cX4_mend 4 = .ok (.iload_n 1, 1) := by decide +kernel
theorem dX4_mend_5 : decode cX4_mend 5 = .ok (.invokevirtual 85, 3) := by decide +kernel
theorem dX4_mend_8 : decode cX4_mend 8 = .ok (.ifCond .eq 13, 3) := by decide +kernel
theorem dX4_mend_11 : decode cX4_mend 11 = .ok (.iload_n 2, 1) := by decide +kernel
theorem dX4_mend_12 : decode cX4_mend 12 = .ok (.iconst 1, 1) := by decide +kernel
theorem dX4_mend_13 : decode cX4_mend 13 = .ok (.bipush 60, 2) := by decide +kernel
theorem dX4_mend_15 : decode cX4_mend 15 = .ok (.invokestatic 47, 3) := by decide +kernel
theorem dX4_mend_18 : decode cX4_mend 18 = .ok (.ifCond .ne 5, 3) := by decide +kernel
theorem dX4_mend_21 : decode cX4_mend 21 = .ok (.iconst (-1), 1) := by decide +kernel
theorem dX4_mend_22 : decode cX4_mend 22 = .ok (.ireturn, 1) := by decide +kernel
theorem dX4_mend_23 : decode cX4_mend 23 = .ok (.aload_n 0, 1) := by decide +kernel
theorem dX4_mend_24 : decode cX4_mend 24 = .ok (.getfield 10, 3) := by decide +kernel
theorem dX4_mend_27 : decode cX4_mend 27 = .ok (.getfield 88, 3) := by decide +kernel
theorem dX4_mend_30 : decode cX4_mend 30 = .ok (.iload_n 1, 1) := by decide +kernel
theorem dX4_mend_31 : decode cX4_mend 31 = .ok (.invokestatic 91, 3) := by decide +kernel
theorem dX4_mend_34 : decode cX4_mend 34 = .ok (.iconst 3, 1) := by decide +kernel
theorem dX4_mend_35 : decode cX4_mend 35 = .ok (.if_icmp .ne 8, 3) := by decide +kernel
theorem dX4_mend_38 : decode cX4_mend 38 = .ok (.bipush (-2), 2) := by decide +kernel
theorem dX4_mend_40 : decode cX4_mend 40 = .ok (.goto 15, 3) := by decide +kernel
theorem dX4_mend_43 : decode cX4_mend 43 = .ok (.aload_n 0, 1) := by decide +kernel
theorem dX4_mend_44 : decode cX4_mend 44 = .ok (.getfield 10, 3) := by decide +kernel
theorem dX4_mend_47 : decode cX4_mend 47 = .ok (.getfield 95, 3) := by decide +kernel
theorem dX4_mend_50 : decode cX4_mend 50 = .ok (.iload_n 1, 1) := by decide +kernel
theorem dX4_mend_51 : decode cX4_mend 51 = .ok (.iload_n 2, 1) := by decide +kernel
theorem dX4_mend_52 : decode cX4_mend 52 = .ok (.invokestatic 67, 3) := by decide +kernel
theorem dX4_mend_55 : decode cX4_mend 55 = .ok (.ireturn, 1) := by decide +kernel
theorem dX4_type_0 : decode cX4_type 0 = .ok (.iload_n 3, 1) := by decide +kernel
theorem dX4_type_1 : decode cX4_type 1 = .ok (.iconst 1, 1) := by decide +kernel
theorem dX4_type_2 : decode cX4_type 2 = .ok (.bipush 8, 2) := by decide +kernel
theorem dX4_type_4 : decode cX4_type 4 = .ok (.invokestatic 47, 3) := by decide +kernel
theorem dX4_type_7 : decode cX4_type 7 = .ok (.ifCond .ne 5, 3) := by decide +kernel
theorem dX4_type_10 : decode cX4_type 10 = .ok (.iconst (-1), 1) := by decide +kernel
theorem dX4_type_11 : decode cX4_type 11 = .ok (.ireturn, 1) := by decide +kernel
theorem dX4_type_12 : decode cX4_type 12 = .ok (.iconst 0, 1) := by decide +kernel
theorem dX4_type_13 : decode cX4_type 13 = .ok (.istore 4, 2) := by decide +kernel
theorem dX4_type_15 : decode cX4_type 15 = .ok (.iload 4, 2) := by decide +kernel
theorem dX4_type_17 : decode cX4_type 17 = .ok (.iload_n 3, 1) := by decide +kernel
theorem dX4_type_18 : decode cX4_type 18 = .ok (.if_icmp .ge 27, 3) := by decide +kernel
theorem dX4_type_21 : decode cX4_type 21 = .ok (.lload_n 1, 1) := by decide +kernel
theorem dX4_type_22 : decode cX4_type 22 = .ok (.iload 4, 2) := by decide +kernel
theorem dX4_type_24 : decode cX4_type 24 = .ok (.invokestatic 104, 3) := by decide +kernel
theorem dX4_type_27 : decode cX4_type 27 = .ok (.bipush 32, 2) := by decide +kernel
theorem dX4_type_29 : decode cX4_type 29 = .ok (.bipush 126, 2) := by decide +kernel
theorem dX4_type_31 : decode cX4_type 31 = .ok (.invokestatic 47, 3) := by decide +kernel
theorem dX4_type_34 : decode cX4_type 34 = .ok (.ifCond .ne 5, 3) := by decide +kernel
theorem dX4_type_37 : decode cX4_type 37 = .ok (.iconst (-1), 1) := by decide +kernel
theorem dX4_type_38 : decode cX4_type 38 = .ok (.ireturn, 1) := by decide +kernel
theorem dX4_type_39 : decode cX4_type 39 = .ok (.iinc 4 1, 3) := by decide +kernel
theorem dX4_type_42 : decode cX4_type 42 = .ok (.goto (-27), 3) := by decide +kernel
theorem dX4_type_45 : decode cX4_type 45 = .ok (.aload_n 0, 1) := by decide +kernel
theorem dX4_type_46 : decode cX4_type 46 = .ok (.getfield 36, 3) := by decide +kernel
theorem dX4_type_49 : decode cX4_type 49 = .ok (.getfield 108, 3) := by decide +kernel
theorem dX4_type_52 : decode cX4_type 52 = .ok (.bipush 120, 2) := by decide +kernel
theorem dX4_type_54 : decode cX4_type 54 = .ok (.iload_n 3, 1) := by decide +kernel
theorem dX4_type_55 : decode cX4_type 55 = .ok (.isub, 1) := by decide +kernel
theorem dX4_type_56 : decode cX4_type 56 = .ok (.if_icmp .le 6, 3) := by decide +kernel
theorem dX4_type_59 : decode cX4_type 59 = .ok (.bipush (-3), 2) := by decide +kernel
theorem dX4_type_61 : decode cX4_type 61 = .ok (.ireturn, 1) := by decide +kernel
theorem dX4_type_62 : decode cX4_type 62 = .ok (.iload_n 3, 1) := by decide +kernel
theorem dX4_type_63 : decode cX4_type 63 = .ok (.iconst 1, 1) := by decide +kernel
theorem dX4_type_64 : decode cX4_type 64 = .ok (.isub, 1) := by decide +kernel
theorem dX4_type_65 : decode cX4_type 65 = .ok (.istore 4, 2) := by decide +kernel
theorem dX4_type_67 : decode cX4_type 67 = .ok (.iload 4, 2) := by decide +kernel
theorem dX4_type_69 : decode cX4_type 69 = .ok (.ifCond .lt 22, 3) := by decide +kernel
theorem dX4_type_72 : decode cX4_type 72 = .ok (.aload_n 0, 1) := by decide +kernel
theorem dX4_type_73 : decode cX4_type 73 = .ok (.getfield 36, 3) := by decide +kernel
theorem dX4_type_76 : decode cX4_type 76 = .ok (.lload_n 1, 1) := by decide +kernel
theorem dX4_type_77 : decode cX4_type 77 = .ok (.iload 4, 2) := by decide +kernel
theorem dX4_type_79 : decode cX4_type 79 = .ok (.invokestatic 104, 3) := by decide +kernel
theorem dX4_type_82 : decode cX4_type 82 = .ok (.invokevirtual 111, 3) := by decide +kernel
theorem dX4_type_85 : decode cX4_type 85 = .ok (.iinc 4 (-1), 3) := by decide +kernel
theorem dX4_type_88 : decode cX4_type 88 = .ok (.goto (-21), 3) := by decide +kernel
theorem dX4_type_91 : decode cX4_type 91 = .ok (.aload_n 0, 1) := by decide +kernel
theorem dX4_type_92 : decode cX4_type 92 = .ok (.getfield 36, 3) := by decide +kernel
theorem dX4_type_95 : decode cX4_type 95 = .ok (.getfield 108, 3) := by decide +kernel
theorem dX4_type_98 : decode cX4_type 98 = .ok (.ireturn, 1) := by decide +kernel
theorem dX4_loft_0 : decode cX4_loft 0 = .ok (.aload_n 0, 1) := by decide +kernel
theorem dX4_loft_1 : decode cX4_loft 1 = .ok (.getfield 36, 3) := by decide +kernel
theorem dX4_loft_4 : decode cX4_loft 4 = .ok (.aload_n 0, 1) := by decide +kernel
theorem dX4_loft_5 : decode cX4_loft 5 = .ok (.getfield 16, 3) := by decide +kernel
theorem dX4_loft_8 : decode cX4_loft 8 = .ok (.invokevirtual 115, 3) := by decide +kernel
theorem dX4_loft_11 : decode cX4_loft 11 = .ok (.aload_n 0, 1) := by decide +kernel
theorem dX4_loft_12 : decode cX4_loft 12 = .ok (.getfield 36, 3) := by decide +kernel
theorem dX4_loft_15 : decode cX4_loft 15 = .ok (.getfield 119, 3) := by decide +kernel
theorem dX4_loft_18 : decode cX4_loft 18 = .ok (.ifCond .ge 22, 3) := by decide +kernel
theorem dX4_loft_21 : decode cX4_loft 21 = .ok (.aload_n 0, 1) := by decide +kernel
theorem dX4_loft_22 : decode cX4_loft 22 = .ok (.getfield 10, 3) := by decide +kernel
theorem dX4_loft_25 : decode cX4_loft 25 = .ok (.aload_n 0, 1) := by decide +kernel
theorem dX4_loft_26 : decode cX4_loft 26 = .ok (.getfield 16, 3) := by decide +kernel
theorem dX4_loft_29 : decode cX4_loft 29 = .ok (.invokevirtual 122, 3) := by decide +kernel
theorem dX4_loft_32 : decode cX4_loft 32 = .ok (.aload_n 0, 1) := by decide +kernel
theorem dX4_loft_33 : decode cX4_loft 33 = .ok (.getfield 10, 3) := by decide +kernel
theorem dX4_loft_36 : decode cX4_loft 36 = .ok (.iconst 0, 1) := by decide +kernel
theorem dX4_loft_37 : decode cX4_loft 37 = .ok (.putfield 125, 3) := by decide +kernel
theorem dX4_loft_40 : decode cX4_loft 40 = .ok (.aload_n 0, 1) := by decide +kernel
theorem dX4_loft_41 : decode cX4_loft 41 = .ok (.getfield 36, 3) := by decide +kernel
theorem dX4_loft_44 : decode cX4_loft 44 = .ok (.aload_n 0, 1) := by decide +kernel
theorem dX4_loft_45 : decode cX4_loft 45 = .ok (.getfield 10, 3) := by decide +kernel
theorem dX4_loft_48 : decode cX4_loft 48 = .ok (.getfield 78, 3) := by decide +kernel
theorem dX4_loft_51 : decode cX4_loft 51 = .ok (.invokevirtual 128, 3) := by decide +kernel
theorem dX4_loft_54 : decode cX4_loft 54 = .ok (.ireturn, 1) := by decide +kernel
theorem dX4_heap_0 : decode cX4_heap 0 = .ok (.aload_n 0, 1) := by decide +kernel
theorem dX4_heap_1 : decode cX4_heap 1 = .ok (.getfield 36, 3) := by decide +kernel
theorem dX4_heap_4 : decode cX4_heap 4 = .ok (.aload_n 0, 1) := by decide +kernel
theorem dX4_heap_5 : decode cX4_heap 5 = .ok (.getfield 16, 3) := by decide +kernel
theorem dX4_heap_8 : decode cX4_heap 8 = .ok (.invokevirtual 132, 3) := by decide +kernel
theorem dX4_heap_11 : decode cX4_heap 11 = .ok (.aload_n 0, 1) := by decide +kernel
theorem dX4_heap_12 : decode cX4_heap 12 = .ok (.getfield 36, 3) := by decide +kernel
theorem dX4_heap_15 : decode cX4_heap 15 = .ok (.getfield 119, 3) := by decide +kernel
theorem dX4_heap_18 : decode cX4_heap 18 = .ok (.ifCond .ge 14, 3) := by decide +kernel
theorem dX4_heap_21 : decode cX4_heap 21 = .ok (.aload_n 0, 1) := by decide +kernel
theorem dX4_heap_22 : decode cX4_heap 22 = .ok (.getfield 10, 3) := by decide +kernel
theorem dX4_heap_25 : decode cX4_heap 25 = .ok (.aload_n 0, 1) := by decide +kernel
theorem dX4_heap_26 : decode cX4_heap 26 = .ok (.getfield 16, 3) := by decide +kernel
theorem dX4_heap_29 : decode cX4_heap 29 = .ok (.invokevirtual 135, 3) := by decide +kernel
theorem dX4_heap_32 : decode cX4_heap 32 = .ok (.aload_n 0, 1) := by decide +kernel
theorem dX4_heap_33 : decode cX4_heap 33 = .ok (.getfield 36, 3) := by decide +kernel
theorem dX4_heap_36 : decode cX4_heap 36 = .ok (.aload_n 0, 1) := by decide +kernel
theorem dX4_heap_37 : decode cX4_heap 37 = .ok (.getfield 10, 3) := by decide +kernel
theorem dX4_heap_40 : decode cX4_heap 40 = .ok (.getfield 51, 3) := by decide +kernel
theorem dX4_heap_43 : decode cX4_heap 43 = .ok (.invokevirtual 128, 3) := by decide +kernel
theorem dX4_heap_46 : decode cX4_heap 46 = .ok (.ireturn, 1) := by decide +kernel
theorem dX4_row_0 : decode cX4_row 0 = .ok (.aload_n 0, 1) := by decide +kernel
theorem dX4_row_1 : decode cX4_row 1 = .ok (.getfield 36, 3) := by decide +kernel
theorem dX4_row_4 : decode cX4_row 4 = .ok (.aload_n 0, 1) := by decide +kernel
theorem dX4_row_5 : decode cX4_row 5 = .ok (.getfield 16, 3) := by decide +kernel
theorem dX4_row_8 : decode cX4_row 8 = .ok (.aload_n 0, 1) := by decide +kernel
theorem dX4_row_9 : decode cX4_row 9 = .ok (.getfield 10, 3) := by decide +kernel
theorem dX4_row_12 : decode cX4_row 12 = .ok (.getfield 78, 3) := by decide +kernel
theorem dX4_row_15 : decode cX4_row 15 = .ok (.invokevirtual 138, 3) := by decide +kernel
theorem dX4_row_18 : decode cX4_row 18 = .ok (.aload_n 0, 1) := by decide +kernel
theorem dX4_row_19 : decode cX4_row 19 = .ok (.getfield 36, 3) := by decide +kernel
theorem dX4_row_22 : decode cX4_row 22 = .ok (.getfield 119, 3) := by decide +kernel
theorem dX4_row_25 : decode cX4_row 25 = .ok (.ifCond .ge 14, 3) := by decide +kernel
theorem dX4_row_28 : decode cX4_row 28 = .ok (.aload_n 0, 1) := by decide +kernel
theorem dX4_row_29 : decode cX4_row 29 = .ok (.getfield 10, 3) := by decide +kernel
theorem dX4_row_32 : decode cX4_row 32 = .ok (.aload_n 0, 1) := by decide +kernel
theorem dX4_row_33 : decode cX4_row 33 = .ok (.getfield 16, 3) := by decide +kernel
theorem dX4_row_36 : decode cX4_row 36 = .ok (.invokevirtual 142, 3) := by decide +kernel
theorem dX4_row_39 : decode cX4_row 39 = .ok (.aload_n 0, 1) := by decide +kernel
theorem dX4_row_40 : decode cX4_row 40 = .ok (.getfield 36, 3) := by decide +kernel
theorem dX4_row_43 : decode cX4_row 43 = .ok (.aload_n 0, 1) := by decide +kernel
theorem dX4_row_44 : decode cX4_row 44 = .ok (.getfield 10, 3) := by decide +kernel
theorem dX4_row_47 : decode cX4_row 47 = .ok (.getfield 125, 3) := by decide +kernel
theorem dX4_row_50 : decode cX4_row 50 = .ok (.invokevirtual 128, 3) := by decide +kernel
theorem dX4_row_53 : decode cX4_row 53 = .ok (.ireturn, 1) := by decide +kernel
theorem dX4_count_0 : decode cX4_count 0 = .ok (.iload_n 1, 1) := by decide +kernel
theorem dX4_count_1 : decode cX4_count 1 = .ok (.tableswitch 82 0 4 #[35, 43, 51, 59, 67], 35) := by decide +kernel
theorem dX4_count_36 : decode cX4_count 36 = .ok (.aload_n 0, 1) := by decide +kernel
theorem dX4_count_37 : decode cX4_count 37 = .ok (.getfield 10, 3) := by decide +kernel
theorem dX4_count_40 : decode cX4_count 40 = .ok (.getfield 78, 3) := by decide +kernel
theorem dX4_count_43 : decode cX4_count 43 = .ok (.ireturn, 1) := by decide +kernel
theorem dX4_count_44 : decode cX4_count 44 = .ok (.aload_n 0, 1) := by decide +kernel
theorem dX4_count_45 : decode cX4_count 45 = .ok (.getfield 10, 3) := by decide +kernel
theorem dX4_count_48 : decode cX4_count 48 = .ok (.getfield 51, 3) := by decide +kernel
theorem dX4_count_51 : decode cX4_count 51 = .ok (.ireturn, 1) := by decide +kernel
theorem dX4_count_52 : decode cX4_count 52 = .ok (.aload_n 0, 1) := by decide +kernel
theorem dX4_count_53 : decode cX4_count 53 = .ok (.getfield 10, 3) := by decide +kernel
theorem dX4_count_56 : decode cX4_count 56 = .ok (.getfield 125, 3) := by decide +kernel
theorem dX4_count_59 : decode cX4_count 59 = .ok (.ireturn, 1) := by decide +kernel
theorem dX4_count_60 : decode cX4_count 60 = .ok (.aload_n 0, 1) := by decide +kernel
theorem dX4_count_61 : decode cX4_count 61 = .ok (.getfield 10, 3) := by decide +kernel
theorem dX4_count_64 : decode cX4_count 64 = .ok (.getfield 145, 3) := by decide +kernel
theorem dX4_count_67 : decode cX4_count 67 = .ok (.ireturn, 1) := by decide +kernel
theorem dX4_count_68 : decode cX4_count 68 = .ok (.aload_n 0, 1) := by decide +kernel
theorem dX4_count_69 : decode cX4_count 69 = .ok (.getfield 10, 3) := by decide +kernel
theorem dX4_count_72 : decode cX4_count 72 = .ok (.aload_n 0, 1) := by decide +kernel
theorem dX4_count_73 : decode cX4_count 73 = .ok (.getfield 10, 3) := by decide +kernel
theorem dX4_count_76 : decode cX4_count 76 = .ok (.invokevirtual 148, 3) := by decide +kernel
theorem dX4_count_79 : decode cX4_count 79 = .ok (.invokevirtual 152, 3) := by decide +kernel
theorem dX4_count_82 : decode cX4_count 82 = .ok (.ireturn, 1) := by decide +kernel
theorem dX4_count_83 : decode cX4_count 83 = .ok (.iconst (-1), 1) := by decide +kernel
theorem dX4_count_84 : decode cX4_count 84 = .ok (.ireturn, 1) := by decide +kernel
theorem dX4_found_0 : decode cX4_found 0 = .ok (.aload_n 0, 1) := by decide +kernel
theorem dX4_found_1 : decode cX4_found 1 = .ok (.getfield 10, 3) := by decide +kernel
theorem dX4_found_4 : decode cX4_found 4 = .ok (.iload_n 1, 1) := by decide +kernel
theorem dX4_found_5 : decode cX4_found 5 = .ok (.invokevirtual 155, 3) := by decide +kernel
theorem dX4_found_8 : decode cX4_found 8 = .ok (.ifCond .eq 12, 3) := by decide +kernel
theorem dX4_found_11 : decode cX4_found 11 = .ok (.iload_n 2, 1) := by decide +kernel
theorem dX4_found_12 : decode cX4_found 12 = .ok (.iconst 0, 1) := by decide +kernel
theorem dX4_found_13 : decode cX4_found 13 = .ok (.iconst 2, 1) := by decide +kernel
theorem dX4_found_14 : decode cX4_found 14 = .ok (.invokestatic 47, 3) := by decide +kernel
theorem dX4_found_17 : decode cX4_found 17 = .ok (.ifCond .ne 5, 3) := by decide +kernel
theorem dX4_found_20 : decode cX4_found 20 = .ok (.iconst (-1), 1) := by decide +kernel
theorem dX4_found_21 : decode cX4_found 21 = .ok (.ireturn, 1) := by decide +kernel
theorem dX4_found_22 : decode cX4_found 22 = .ok (.aload_n 0, 1) := by decide +kernel
theorem dX4_found_23 : decode cX4_found 23 = .ok (.getfield 10, 3) := by decide +kernel
theorem dX4_found_26 : decode cX4_found 26 = .ok (.invokevirtual 158, 3) := by decide +kernel
theorem dX4_found_29 : decode cX4_found 29 = .ok (.aload_n 0, 1) := by decide +kernel
theorem dX4_found_30 : decode cX4_found 30 = .ok (.getfield 10, 3) := by decide +kernel
theorem dX4_found_33 : decode cX4_found 33 = .ok (.getfield 161, 3) := by decide +kernel
theorem dX4_found_36 : decode cX4_found 36 = .ok (.iload_n 1, 1) := by decide +kernel
theorem dX4_found_37 : decode cX4_found 37 = .ok (.invokestatic 91, 3) := by decide +kernel
theorem dX4_found_40 : decode cX4_found 40 = .ok (.istore_n 3, 1) := by decide +kernel
theorem dX4_found_41 : decode cX4_found 41 = .ok (.iload_n 2, 1) := by decide +kernel
theorem dX4_found_42 : decode cX4_found 42 = .ok (.ifCond .ne 7, 3) := by decide +kernel
theorem dX4_found_45 : decode cX4_found 45 = .ok (.iload_n 3, 1) := by decide +kernel
theorem dX4_found_46 : decode cX4_found 46 = .ok (.goto 27, 3) := by decide +kernel
theorem dX4_found_49 : decode cX4_found 49 = .ok (.iload_n 2, 1) := by decide +kernel
theorem dX4_found_50 : decode cX4_found 50 = .ok (.iconst 1, 1) := by decide +kernel
theorem dX4_found_51 : decode cX4_found 51 = .ok (.if_icmp .ne 14, 3) := by decide +kernel
theorem dX4_found_54 : decode cX4_found 54 = .ok (.aload_n 0, 1) := by decide +kernel
theorem dX4_found_55 : decode cX4_found 55 = .ok (.getfield 10, 3) := by decide +kernel
theorem dX4_found_58 : decode cX4_found 58 = .ok (.iload_n 3, 1) := by decide +kernel
theorem dX4_found_59 : decode cX4_found 59 = .ok (.invokevirtual 152, 3) := by decide +kernel
theorem dX4_found_62 : decode cX4_found 62 = .ok (.goto 11, 3) := by decide +kernel
theorem dX4_found_65 : decode cX4_found 65 = .ok (.aload_n 0, 1) := by decide +kernel
theorem dX4_found_66 : decode cX4_found 66 = .ok (.getfield 10, 3) := by decide +kernel
theorem dX4_found_69 : decode cX4_found 69 = .ok (.iload_n 3, 1) := by decide +kernel
theorem dX4_found_70 : decode cX4_found 70 = .ok (.invokevirtual 164, 3) := by decide +kernel
theorem dX4_found_73 : decode cX4_found 73 = .ok (.ireturn, 1) := by decide +kernel
theorem dX4_where_0 : decode cX4_where 0 = .ok (.aload_n 0, 1) := by decide +kernel
theorem dX4_where_1 : decode cX4_where 1 = .ok (.getfield 10, 3) := by decide +kernel
theorem dX4_where_4 : decode cX4_where 4 = .ok (.iload_n 1, 1) := by decide +kernel
theorem dX4_where_5 : decode cX4_where 5 = .ok (.invokevirtual 59, 3) := by decide +kernel
theorem dX4_where_8 : decode cX4_where 8 = .ok (.ifCond .ne 5, 3) := by decide +kernel
theorem dX4_where_11 : decode cX4_where 11 = .ok (.iconst (-1), 1) := by decide +kernel
theorem dX4_where_12 : decode cX4_where 12 = .ok (.ireturn, 1) := by decide +kernel
theorem dX4_where_13 : decode cX4_where 13 = .ok (.aload_n 0, 1) := by decide +kernel
theorem dX4_where_14 : decode cX4_where 14 = .ok (.getfield 10, 3) := by decide +kernel
theorem dX4_where_17 : decode cX4_where 17 = .ok (.invokevirtual 158, 3) := by decide +kernel
theorem dX4_where_20 : decode cX4_where 20 = .ok (.aload_n 0, 1) := by decide +kernel
theorem dX4_where_21 : decode cX4_where 21 = .ok (.getfield 10, 3) := by decide +kernel
theorem dX4_where_24 : decode cX4_where 24 = .ok (.iload_n 1, 1) := by decide +kernel
theorem dX4_where_25 : decode cX4_where 25 = .ok (.invokevirtual 167, 3) := by decide +kernel
theorem dX4_where_28 : decode cX4_where 28 = .ok (.ireturn, 1) := by decide +kernel
theorem dX4_chokes_0 : decode cX4_chokes 0 = .ok (.aload_n 0, 1) := by decide +kernel
theorem dX4_chokes_1 : decode cX4_chokes 1 = .ok (.getfield 10, 3) := by decide +kernel
theorem dX4_chokes_4 : decode cX4_chokes 4 = .ok (.invokevirtual 148, 3) := by decide +kernel
theorem dX4_chokes_7 : decode cX4_chokes 7 = .ok (.istore_n 1, 1) := by decide +kernel
theorem dX4_chokes_8 : decode cX4_chokes 8 = .ok (.iconst 0, 1) := by decide +kernel
theorem dX4_chokes_9 : decode cX4_chokes 9 = .ok (.istore_n 2, 1) := by decide +kernel
theorem dX4_chokes_10 : decode cX4_chokes 10 = .ok (.iconst 0, 1) := by decide +kernel
theorem dX4_chokes_11 : decode cX4_chokes 11 = .ok (.istore_n 3, 1) := by decide +kernel
theorem dX4_chokes_12 : decode cX4_chokes 12 = .ok (.iload_n 3, 1) := by decide +kernel
theorem dX4_chokes_13 : decode cX4_chokes 13 = .ok (.aload_n 0, 1) := by decide +kernel
theorem dX4_chokes_14 : decode cX4_chokes 14 = .ok (.getfield 10, 3) := by decide +kernel
theorem dX4_chokes_17 : decode cX4_chokes 17 = .ok (.getfield 125, 3) := by decide +kernel
theorem dX4_chokes_20 : decode cX4_chokes 20 = .ok (.if_icmp .ge 61, 3) := by decide +kernel
theorem dX4_chokes_23 : decode cX4_chokes 23 = .ok (.aload_n 0, 1) := by decide +kernel
theorem dX4_chokes_24 : decode cX4_chokes 24 = .ok (.getfield 10, 3) := by decide +kernel
theorem dX4_chokes_27 : decode cX4_chokes 27 = .ok (.getfield 170, 3) := by decide +kernel
theorem dX4_chokes_30 : decode cX4_chokes 30 = .ok (.iload_n 3, 1) := by decide +kernel
theorem dX4_chokes_31 : decode cX4_chokes 31 = .ok (.invokestatic 91, 3) := by decide +kernel
theorem dX4_chokes_34 : decode cX4_chokes 34 = .ok (.istore 4, 2) := by decide +kernel
theorem dX4_chokes_36 : decode cX4_chokes 36 = .ok (.aload_n 0, 1) := by decide +kernel
theorem dX4_chokes_37 : decode cX4_chokes 37 = .ok (.getfield 10, 3) := by decide +kernel
theorem dX4_chokes_40 : decode cX4_chokes 40 = .ok (.iload 4, 2) := by decide +kernel
theorem dX4_chokes_42 : decode cX4_chokes 42 = .ok (.aload_n 0, 1) := by decide +kernel
theorem dX4_chokes_43 : decode cX4_chokes 43 = .ok (.getfield 10, 3) := by decide +kernel
theorem dX4_chokes_46 : decode cX4_chokes 46 = .ok (.iload 4, 2) := by decide +kernel
theorem dX4_chokes_48 : decode cX4_chokes 48 = .ok (.iload_n 1, 1) := by decide +kernel
theorem dX4_chokes_49 : decode cX4_chokes 49 = .ok (.invokevirtual 173, 3) := by decide +kernel
theorem dX4_chokes_52 : decode cX4_chokes 52 = .ok (.invokevirtual 177, 3) := by decide +kernel
theorem dX4_chokes_55 : decode cX4_chokes 55 = .ok (.ifCond .eq 9, 3) := by decide +kernel
theorem dX4_chokes_58 : decode cX4_chokes 58 = .ok (.iload_n 2, 1) := by decide +kernel
theorem dX4_chokes_59 : decode cX4_chokes 59 = .ok (.iconst 1, 1) := by decide +kernel
theorem dX4_chokes_60 : decode cX4_chokes 60 = .ok (.iload_n 3, 1) := by decide +kernel
theorem dX4_chokes_61 : decode cX4_chokes 61 = .ok (.ishl, 1) := by decide +kernel
theorem dX4_chokes_62 : decode cX4_chokes 62 = .ok (.ior, 1) := by decide +kernel
theorem dX4_chokes_63 : decode cX4_chokes 63 = .ok (.istore_n 2, 1) := by decide +kernel
theorem dX4_chokes_64 : decode cX4_chokes 64 = .ok (.aload_n 0, 1) := by decide +kernel
theorem dX4_chokes_65 : decode cX4_chokes 65 = .ok (.getfield 10, 3) := by decide +kernel
theorem dX4_chokes_68 : decode cX4_chokes 68 = .ok (.iload 4, 2) := by decide +kernel
theorem dX4_chokes_70 : decode cX4_chokes 70 = .ok (.iload_n 1, 1) := by decide +kernel
theorem dX4_chokes_71 : decode cX4_chokes 71 = .ok (.invokevirtual 181, 3) := by decide +kernel
theorem dX4_chokes_74 : decode cX4_chokes 74 = .ok (.istore_n 1, 1) := by decide +kernel
theorem dX4_chokes_75 : decode cX4_chokes 75 = .ok (.iinc 3 1, 3) := by decide +kernel
theorem dX4_chokes_78 : decode cX4_chokes 78 = .ok (.goto (-66), 3) := by decide +kernel
theorem dX4_chokes_81 : decode cX4_chokes 81 = .ok (.iload_n 2, 1) := by decide +kernel
theorem dX4_chokes_82 : decode cX4_chokes 82 = .ok (.ireturn, 1) := by decide +kernel
theorem dX4_shake_0 : decode cX4_shake 0 = .ok (.aload_n 0, 1) := by decide +kernel
theorem dX4_shake_1 : decode cX4_shake 1 = .ok (.getfield 10, 3) := by decide +kernel
theorem dX4_shake_4 : decode cX4_shake 4 = .ok (.aload_n 0, 1) := by decide +kernel
theorem dX4_shake_5 : decode cX4_shake 5 = .ok (.getfield 10, 3) := by decide +kernel
theorem dX4_shake_8 : decode cX4_shake 8 = .ok (.getfield 170, 3) := by decide +kernel
theorem dX4_shake_11 : decode cX4_shake 11 = .ok (.aload_n 0, 1) := by decide +kernel
theorem dX4_shake_12 : decode cX4_shake 12 = .ok (.getfield 10, 3) := by decide +kernel
theorem dX4_shake_15 : decode cX4_shake 15 = .ok (.getfield 125, 3) := by decide +kernel
theorem dX4_shake_18 : decode cX4_shake 18 = .ok (.invokevirtual 184, 3) := by decide +kernel
theorem dX4_shake_21 : decode cX4_shake 21 = .ok (.ireturn, 1) := by decide +kernel
theorem dX4_lasts_0 : decode cX4_lasts 0 = .ok (.aload_n 0, 1) := by decide +kernel
theorem dX4_lasts_1 : decode cX4_lasts 1 = .ok (.getfield 10, 3) := by decide +kernel
theorem dX4_lasts_4 : decode cX4_lasts 4 = .ok (.invokevirtual 158, 3) := by decide +kernel
theorem dX4_lasts_7 : decode cX4_lasts 7 = .ok (.aload_n 0, 1) := by decide +kernel
theorem dX4_lasts_8 : decode cX4_lasts 8 = .ok (.getfield 16, 3) := by decide +kernel
theorem dX4_lasts_11 : decode cX4_lasts 11 = .ok (.aload_n 0, 1) := by decide +kernel
theorem dX4_lasts_12 : decode cX4_lasts 12 = .ok (.getfield 10, 3) := by decide +kernel
theorem dX4_lasts_15 : decode cX4_lasts 15 = .ok (.invokevirtual 187, 3) := by decide +kernel
theorem dX4_lasts_18 : decode cX4_lasts 18 = .ok (.iconst 0, 1) := by decide +kernel
theorem dX4_lasts_19 : decode cX4_lasts 19 = .ok (.istore_n 1, 1) := by decide +kernel
theorem dX4_lasts_20 : decode cX4_lasts 20 = .ok (.iload_n 1, 1) := by decide +kernel
theorem dX4_lasts_21 : decode cX4_lasts 21 = .ok (.sipush 200, 3) := by decide +kernel
theorem dX4_lasts_24 : decode cX4_lasts 24 = .ok (.if_icmp .ge 47, 3) := by decide +kernel
theorem dX4_lasts_27 : decode cX4_lasts 27 = .ok (.aload_n 0, 1) := by decide +kernel
theorem dX4_lasts_28 : decode cX4_lasts 28 = .ok (.getfield 16, 3) := by decide +kernel
theorem dX4_lasts_31 : decode cX4_lasts 31 = .ok (.invokevirtual 158, 3) := by decide +kernel
theorem dX4_lasts_34 : decode cX4_lasts 34 = .ok (.aload_n 0, 1) := by decide +kernel
theorem dX4_lasts_35 : decode cX4_lasts 35 = .ok (.invokevirtual 190, 3) := by decide +kernel
theorem dX4_lasts_38 : decode cX4_lasts 38 = .ok (.ifCond .ne 5, 3) := by decide +kernel
theorem dX4_lasts_41 : decode cX4_lasts 41 = .ok (.iload_n 1, 1) := by decide +kernel
theorem dX4_lasts_42 : decode cX4_lasts 42 = .ok (.ireturn, 1) := by decide +kernel
theorem dX4_lasts_43 : decode cX4_lasts 43 = .ok (.aload_n 0, 1) := by decide +kernel
theorem dX4_lasts_44 : decode cX4_lasts 44 = .ok (.getfield 16, 3) := by decide +kernel
theorem dX4_lasts_47 : decode cX4_lasts 47 = .ok (.aload_n 0, 1) := by decide +kernel
theorem dX4_lasts_48 : decode cX4_lasts 48 = .ok (.getfield 16, 3) := by decide +kernel
theorem dX4_lasts_51 : decode cX4_lasts 51 = .ok (.getfield 170, 3) := by decide +kernel
theorem dX4_lasts_54 : decode cX4_lasts 54 = .ok (.aload_n 0, 1) := by decide +kernel
theorem dX4_lasts_55 : decode cX4_lasts 55 = .ok (.getfield 16, 3) := by decide +kernel
theorem dX4_lasts_58 : decode cX4_lasts 58 = .ok (.getfield 125, 3) := by decide +kernel
theorem dX4_lasts_61 : decode cX4_lasts 61 = .ok (.invokevirtual 184, 3) := by decide +kernel
theorem dX4_lasts_64 : decode cX4_lasts 64 = .ok (.pop, 1) := by decide +kernel
theorem dX4_lasts_65 : decode cX4_lasts 65 = .ok (.iinc 1 1, 3) := by decide +kernel
theorem dX4_lasts_68 : decode cX4_lasts 68 = .ok (.goto (-48), 3) := by decide +kernel
theorem dX4_lasts_71 : decode cX4_lasts 71 = .ok (.sipush 200, 3) := by decide +kernel
theorem dX4_lasts_74 : decode cX4_lasts 74 = .ok (.ireturn, 1) := by decide +kernel
theorem dX4_best_0 : decode cX4_best 0 = .ok (.iload_n 1, 1) := by decide +kernel
theorem dX4_best_1 : decode cX4_best 1 = .ok (.iconst 0, 1) := by decide +kernel
theorem dX4_best_2 : decode cX4_best 2 = .ok (.iconst 4, 1) := by decide +kernel
theorem dX4_best_3 : decode cX4_best 3 = .ok (.invokestatic 47, 3) := by decide +kernel
theorem dX4_best_6 : decode cX4_best 6 = .ok (.ifCond .eq 13, 3) := by decide +kernel
theorem dX4_best_9 : decode cX4_best 9 = .ok (.iload_n 2, 1) := by decide +kernel
theorem dX4_best_10 : decode cX4_best 10 = .ok (.bipush (-2), 2) := by decide +kernel
theorem dX4_best_12 : decode cX4_best 12 = .ok (.iconst 3, 1) := by decide +kernel
theorem dX4_best_13 : decode cX4_best 13 = .ok (.invokestatic 47, 3) := by decide +kernel
theorem dX4_best_16 : decode cX4_best 16 = .ok (.ifCond .ne 5, 3) := by decide +kernel
theorem dX4_best_19 : decode cX4_best 19 = .ok (.iconst (-1), 1) := by decide +kernel
theorem dX4_best_20 : decode cX4_best 20 = .ok (.ireturn, 1) := by decide +kernel
theorem dX4_best_21 : decode cX4_best 21 = .ok (.aload_n 0, 1) := by decide +kernel
theorem dX4_best_22 : decode cX4_best 22 = .ok (.iload_n 1, 1) := by decide +kernel
theorem dX4_best_23 : decode cX4_best 23 = .ok (.invokevirtual 194, 3) := by decide +kernel
theorem dX4_best_26 : decode cX4_best 26 = .ok (.iload_n 2, 1) := by decide +kernel
theorem dX4_best_27 : decode cX4_best 27 = .ok (.bipush (-2), 2) := by decide +kernel
theorem dX4_best_29 : decode cX4_best 29 = .ok (.if_icmp .ne 13, 3) := by decide +kernel
theorem dX4_best_32 : decode cX4_best 32 = .ok (.aload_n 0, 1) := by decide +kernel
theorem dX4_best_33 : decode cX4_best 33 = .ok (.getfield 29, 3) := by decide +kernel
theorem dX4_best_36 : decode cX4_best 36 = .ok (.getfield 197, 3) := by decide +kernel
theorem dX4_best_39 : decode cX4_best 39 = .ok (.goto 26, 3) := by decide +kernel
theorem dX4_best_42 : decode cX4_best 42 = .ok (.iload_n 2, 1) := by decide +kernel
theorem dX4_best_43 : decode cX4_best 43 = .ok (.iconst (-1), 1) := by decide +kernel
theorem dX4_best_44 : decode cX4_best 44 = .ok (.if_icmp .ne 13, 3) := by decide +kernel
theorem dX4_best_47 : decode cX4_best 47 = .ok (.aload_n 0, 1) := by decide +kernel
theorem dX4_best_48 : decode cX4_best 48 = .ok (.getfield 29, 3) := by decide +kernel
theorem dX4_best_51 : decode cX4_best 51 = .ok (.getfield 200, 3) := by decide +kernel
theorem dX4_best_54 : decode cX4_best 54 = .ok (.goto 11, 3) := by decide +kernel
theorem dX4_best_57 : decode cX4_best 57 = .ok (.aload_n 0, 1) := by decide +kernel
theorem dX4_best_58 : decode cX4_best 58 = .ok (.getfield 29, 3) := by decide +kernel
theorem dX4_best_61 : decode cX4_best 61 = .ok (.iload_n 2, 1) := by decide +kernel
theorem dX4_best_62 : decode cX4_best 62 = .ok (.invokevirtual 201, 3) := by decide +kernel
theorem dX4_best_65 : decode cX4_best 65 = .ok (.ireturn, 1) := by decide +kernel
theorem dX4_parted_0 : decode cX4_parted 0 = .ok (.iload_n 1, 1) := by decide +kernel
theorem dX4_parted_1 : decode cX4_parted 1 = .ok (.iconst 0, 1) := by decide +kernel
theorem dX4_parted_2 : decode cX4_parted 2 = .ok (.iconst 1, 1) := by decide +kernel
theorem dX4_parted_3 : decode cX4_parted 3 = .ok (.aload_n 0, 1) := by decide +kernel
theorem dX4_parted_4 : decode cX4_parted 4 = .ok (.getfield 10, 3) := by decide +kernel
theorem dX4_parted_7 : decode cX4_parted 7 = .ok (.getfield 51, 3) := by decide +kernel
theorem dX4_parted_10 : decode cX4_parted 10 = .ok (.ishl, 1) := by decide +kernel
theorem dX4_parted_11 : decode cX4_parted 11 = .ok (.iconst 1, 1) := by decide +kernel
theorem dX4_parted_12 : decode cX4_parted 12 = .ok (.isub, 1) := by decide +kernel
theorem dX4_parted_13 : decode cX4_parted 13 = .ok (.invokestatic 47, 3) := by decide +kernel
theorem dX4_parted_16 : decode cX4_parted 16 = .ok (.ifCond .eq 12, 3) := by decide +kernel
theorem dX4_parted_19 : decode cX4_parted 19 = .ok (.iload_n 2, 1) := by decide +kernel
theorem dX4_parted_20 : decode cX4_parted 20 = .ok (.iconst (-1), 1) := by decide +kernel
theorem dX4_parted_21 : decode cX4_parted 21 = .ok (.iconst 3, 1) := by decide +kernel
theorem dX4_parted_22 : decode cX4_parted 22 = .ok (.invokestatic 47, 3) := by decide +kernel
theorem dX4_parted_25 : decode cX4_parted 25 = .ok (.ifCond .ne 5, 3) := by decide +kernel
theorem dX4_parted_28 : decode cX4_parted 28 = .ok (.iconst (-1), 1) := by decide +kernel
theorem dX4_parted_29 : decode cX4_parted 29 = .ok (.ireturn, 1) := by decide +kernel
theorem dX4_parted_30 : decode cX4_parted 30 = .ok (.aload_n 0, 1) := by decide +kernel
theorem dX4_parted_31 : decode cX4_parted 31 = .ok (.getfield 29, 3) := by decide +kernel
theorem dX4_parted_34 : decode cX4_parted 34 = .ok (.iconst 4, 1) := by decide +kernel
theorem dX4_parted_35 : decode cX4_parted 35 = .ok (.iload_n 1, 1) := by decide +kernel
theorem dX4_parted_36 : decode cX4_parted 36 = .ok (.invokevirtual 204, 3) := by decide +kernel
theorem dX4_parted_39 : decode cX4_parted 39 = .ok (.aload_n 0, 1) := by decide +kernel
theorem dX4_parted_40 : decode cX4_parted 40 = .ok (.getfield 10, 3) := by decide +kernel
theorem dX4_parted_43 : decode cX4_parted 43 = .ok (.aload_n 0, 1) := by decide +kernel
theorem dX4_parted_44 : decode cX4_parted 44 = .ok (.getfield 29, 3) := by decide +kernel
theorem dX4_parted_47 : decode cX4_parted 47 = .ok (.iconst 0, 1) := by decide +kernel
theorem dX4_parted_48 : decode cX4_parted 48 = .ok (.aload_n 0, 1) := by decide +kernel
theorem dX4_parted_49 : decode cX4_parted 49 = .ok (.getfield 10, 3) := by decide +kernel
theorem dX4_parted_52 : decode cX4_parted 52 = .ok (.invokevirtual 148, 3) := by decide +kernel
theorem dX4_parted_55 : decode cX4_parted 55 = .ok (.invokestatic 208, 3) := by decide +kernel
theorem dX4_parted_58 : decode cX4_parted 58 = .ok (.aload_n 0, 1) := by decide +kernel
theorem dX4_parted_59 : decode cX4_parted 59 = .ok (.getfield 29, 3) := by decide +kernel
theorem dX4_parted_62 : decode cX4_parted 62 = .ok (.getfield 200, 3) := by decide +kernel
theorem dX4_parted_65 : decode cX4_parted 65 = .ok (.ifCond .ge 6, 3) := by decide +kernel
theorem dX4_parted_68 : decode cX4_parted 68 = .ok (.bipush (-4), 2) := by decide +kernel
theorem dX4_parted_70 : decode cX4_parted 70 = .ok (.ireturn, 1) := by decide +kernel
theorem dX4_parted_71 : decode cX4_parted 71 = .ok (.iload_n 2, 1) := by decide +kernel
theorem dX4_parted_72 : decode cX4_parted 72 = .ok (.iconst (-1), 1) := by decide +kernel
theorem dX4_parted_73 : decode cX4_parted 73 = .ok (.if_icmp .ne 13, 3) := by decide +kernel
theorem dX4_parted_76 : decode cX4_parted 76 = .ok (.aload_n 0, 1) := by decide +kernel
theorem dX4_parted_77 : decode cX4_parted 77 = .ok (.getfield 29, 3) := by decide +kernel
theorem dX4_parted_80 : decode cX4_parted 80 = .ok (.getfield 200, 3) := by decide +kernel
theorem dX4_parted_83 : decode cX4_parted 83 = .ok (.goto 11, 3) := by decide +kernel
theorem dX4_parted_86 : decode cX4_parted 86 = .ok (.aload_n 0, 1) := by decide +kernel
theorem dX4_parted_87 : decode cX4_parted 87 = .ok (.getfield 29, 3) := by decide +kernel
theorem dX4_parted_90 : decode cX4_parted 90 = .ok (.iload_n 2, 1) := by decide +kernel
theorem dX4_parted_91 : decode cX4_parted 91 = .ok (.invokevirtual 201, 3) := by decide +kernel
theorem dX4_parted_94 : decode cX4_parted 94 = .ok (.ireturn, 1) := by decide +kernel
theorem dX4_season_0 : decode cX4_season 0 = .ok (.iload_n 1, 1) := by decide +kernel
theorem dX4_season_1 : decode cX4_season 1 = .ok (.iconst 1, 1) := by decide +kernel
theorem dX4_season_2 : decode cX4_season 2 = .ok (.bipush 20, 2) := by decide +kernel
theorem dX4_season_4 : decode cX4_season 4 = .ok (.invokestatic 47, 3) := by decide +kernel
theorem dX4_season_7 : decode cX4_season 7 = .ok (.ifCond .eq 12, 3) := by decide +kernel
theorem dX4_season_10 : decode cX4_season 10 = .ok (.iload_n 2, 1) := by decide +kernel
theorem dX4_season_11 : decode cX4_season 11 = .ok (.iconst 0, 1) := by decide +kernel
theorem dX4_season_12 : decode cX4_season 12 = .ok (.iconst 3, 1) := by decide +kernel
theorem dX4_season_13 : decode cX4_season 13 = .ok (.invokestatic 47, 3) := by decide +kernel
theorem dX4_season_16 : decode cX4_season 16 = .ok (.ifCond .ne 5, 3) := by decide +kernel
theorem dX4_season_19 : decode cX4_season 19 = .ok (.iconst (-1), 1) := by decide +kernel
theorem dX4_season_20 : decode cX4_season 20 = .ok (.ireturn, 1) := by decide +kernel
theorem dX4_season_21 : decode cX4_season 21 = .ok (.iconst 0, 1) := by decide +kernel
theorem dX4_season_22 : decode cX4_season 22 = .ok (.istore_n 3, 1) := by decide +kernel
theorem dX4_season_23 : decode cX4_season 23 = .ok (.iconst 0, 1) := by decide +kernel
theorem dX4_season_24 : decode cX4_season 24 = .ok (.istore 4, 2) := by decide +kernel
theorem dX4_season_26 : decode cX4_season 26 = .ok (.iload 4, 2) := by decide +kernel
theorem dX4_season_28 : decode cX4_season 28 = .ok (.iload_n 1, 1) := by decide +kernel
theorem dX4_season_29 : decode cX4_season 29 = .ok (.if_icmp .ge 38, 3) := by decide +kernel
theorem dX4_season_32 : decode cX4_season 32 = .ok (.aload_n 0, 1) := by decide +kernel
theorem dX4_season_33 : decode cX4_season 33 = .ok (.iload_n 2, 1) := by decide +kernel
theorem dX4_season_34 : decode cX4_season 34 = .ok (.invokevirtual 194, 3) := by decide +kernel
theorem dX4_season_37 : decode cX4_season 37 = .ok (.iload_n 3, 1) := by decide +kernel
theorem dX4_season_38 : decode cX4_season 38 = .ok (.aload_n 0, 1) := by decide +kernel
theorem dX4_season_39 : decode cX4_season 39 = .ok (.getfield 10, 3) := by decide +kernel
theorem dX4_season_42 : decode cX4_season 42 = .ok (.aload_n 0, 1) := by decide +kernel
theorem dX4_season_43 : decode cX4_season 43 = .ok (.getfield 29, 3) := by decide +kernel
theorem dX4_season_46 : decode cX4_season 46 = .ok (.getfield 212, 3) := by decide +kernel
theorem dX4_season_49 : decode cX4_season 49 = .ok (.aload_n 0, 1) := by decide +kernel
theorem dX4_season_50 : decode cX4_season 50 = .ok (.getfield 29, 3) := by decide +kernel
theorem dX4_season_53 : decode cX4_season 53 = .ok (.getfield 200, 3) := by decide +kernel
theorem dX4_season_56 : decode cX4_season 56 = .ok (.invokevirtual 184, 3) := by decide +kernel
theorem dX4_season_59 : decode cX4_season 59 = .ok (.iadd, 1) := by decide +kernel
theorem dX4_season_60 : decode cX4_season 60 = .ok (.istore_n 3, 1) := by decide +kernel
theorem dX4_season_61 : decode cX4_season 61 = .ok (.iinc 4 1, 3) := by decide +kernel
theorem dX4_season_64 : decode cX4_season 64 = .ok (.goto (-38), 3) := by decide +kernel
theorem dX4_season_67 : decode cX4_season 67 = .ok (.iload_n 3, 1) := by decide +kernel
theorem dX4_season_68 : decode cX4_season 68 = .ok (.ireturn, 1) := by decide +kernel
theorem dX4_fits_0 : decode cX4_fits 0 = .ok (.aload_n 0, 1) := by decide +kernel
theorem dX4_fits_1 : decode cX4_fits 1 = .ok (.getfield 10, 3) := by decide +kernel
theorem dX4_fits_4 : decode cX4_fits 4 = .ok (.iload_n 1, 1) := by decide +kernel
theorem dX4_fits_5 : decode cX4_fits 5 = .ok (.invokevirtual 155, 3) := by decide +kernel
theorem dX4_fits_8 : decode cX4_fits 8 = .ok (.ifCond .ne 7, 3) := by decide +kernel
theorem dX4_fits_11 : decode cX4_fits 11 = .ok (.ldc2_w 215, 3) := by decide +kernel
theorem dX4_fits_14 : decode cX4_fits 14 = .ok (.lreturn, 1) := by decide +kernel
theorem dX4_fits_15 : decode cX4_fits 15 = .ok (.lconst 0, 1) := by decide +kernel
theorem dX4_fits_16 : decode cX4_fits 16 = .ok (.lstore_n 2, 1) := by decide +kernel
theorem dX4_fits_17 : decode cX4_fits 17 = .ok (.iconst 1, 1) := by decide +kernel
theorem dX4_fits_18 : decode cX4_fits 18 = .ok (.istore 4, 2) := by decide +kernel
theorem dX4_fits_20 : decode cX4_fits 20 = .ok (.iload 4, 2) := by decide +kernel
theorem dX4_fits_22 : decode cX4_fits 22 = .ok (.bipush 60, 2) := by decide +kernel
theorem dX4_fits_24 : decode cX4_fits 24 = .ok (.if_icmp .gt 31, 3) := by decide +kernel
theorem dX4_fits_27 : decode cX4_fits 27 = .ok (.aload_n 0, 1) := by decide +kernel
theorem dX4_fits_28 : decode cX4_fits 28 = .ok (.getfield 10, 3) := by decide +kernel
theorem dX4_fits_31 : decode cX4_fits 31 = .ok (.iload 4, 2) := by decide +kernel
theorem dX4_fits_33 : decode cX4_fits 33 = .ok (.invokevirtual 217, 3) := by decide +kernel
theorem dX4_fits_36 : decode cX4_fits 36 = .ok (.iload_n 1, 1) := by decide +kernel
theorem dX4_fits_37 : decode cX4_fits 37 = .ok (.if_icmp .ne 12, 3) := by decide +kernel
theorem dX4_fits_40 : decode cX4_fits 40 = .ok (.lload_n 2, 1) := by decide +kernel
theorem dX4_fits_41 : decode cX4_fits 41 = .ok (.lconst 1, 1) := by decide +kernel
theorem dX4_fits_42 : decode cX4_fits 42 = .ok (.iload 4, 2) := by decide +kernel
theorem dX4_fits_44 : decode cX4_fits 44 = .ok (.iconst 1, 1) := by decide +kernel
theorem dX4_fits_45 : decode cX4_fits 45 = .ok (.isub, 1) := by decide +kernel
theorem dX4_fits_46 : decode cX4_fits 46 = .ok (.lshl, 1) := by decide +kernel
theorem dX4_fits_47 : decode cX4_fits 47 = .ok (.lor, 1) := by decide +kernel
theorem dX4_fits_48 : decode cX4_fits 48 = .ok (.lstore_n 2, 1) := by decide +kernel
theorem dX4_fits_49 : decode cX4_fits 49 = .ok (.iinc 4 1, 3) := by decide +kernel
theorem dX4_fits_52 : decode cX4_fits 52 = .ok (.goto (-32), 3) := by decide +kernel
theorem dX4_fits_55 : decode cX4_fits 55 = .ok (.lload_n 2, 1) := by decide +kernel
theorem dX4_fits_56 : decode cX4_fits 56 = .ok (.lreturn, 1) := by decide +kernel
theorem dX4_shares_0 : decode cX4_shares 0 = .ok (.iload_n 1, 1) := by decide +kernel
theorem dX4_shares_1 : decode cX4_shares 1 = .ok (.iconst 1, 1) := by decide +kernel
theorem dX4_shares_2 : decode cX4_shares 2 = .ok (.sipush 9999, 3) := by decide +kernel
theorem dX4_shares_5 : decode cX4_shares 5 = .ok (.invokestatic 47, 3) := by decide +kernel
theorem dX4_shares_8 : decode cX4_shares 8 = .ok (.ifCond .eq 42, 3) := by decide +kernel
theorem dX4_shares_11 : decode cX4_shares 11 = .ok (.iload_n 2, 1) := by decide +kernel
theorem dX4_shares_12 : decode cX4_shares 12 = .ok (.iconst 1, 1) := by decide +kernel
theorem dX4_shares_13 : decode cX4_shares 13 = .ok (.ldc 220, 2) := by decide +kernel
theorem dX4_shares_15 : decode cX4_shares 15 = .ok (.invokestatic 47, 3) := by decide +kernel
theorem dX4_shares_18 : decode cX4_shares 18 = .ok (.ifCond .eq 32, 3) := by decide +kernel
theorem dX4_shares_21 : decode cX4_shares 21 = .ok (.iload_n 3, 1) := by decide +kernel
theorem dX4_shares_22 : decode cX4_shares 22 = .ok (.iconst 1, 1) := by decide +kernel
theorem dX4_shares_23 : decode cX4_shares 23 = .ok (.sipush 999, 3) := by decide +kernel
theorem dX4_shares_26 : decode cX4_shares 26 = .ok (.invokestatic 47, 3) := by decide +kernel
theorem dX4_shares_29 : decode cX4_shares 29 = .ok (.ifCond .eq 21, 3) := by decide +kernel
theorem dX4_shares_32 : decode cX4_shares 32 = .ok (.iload 4, 2) := by decide +kernel
theorem dX4_shares_34 : decode cX4_shares 34 = .ok (.iconst 1, 1) := by decide +kernel
theorem dX4_shares_35 : decode cX4_shares 35 = .ok (.sipush 999, 3) := by decide +kernel
theorem dX4_shares_38 : decode cX4_shares 38 = .ok (.invokestatic 47, 3) := by decide +kernel
theorem dX4_shares_41 : decode cX4_shares 41 = .ok (.ifCond .eq 9, 3) := by decide +kernel
theorem dX4_shares_44 : decode cX4_shares 44 = .ok (.iload_n 3, 1) := by decide +kernel
theorem dX4_shares_45 : decode cX4_shares 45 = .ok (.iload 4, 2) := by decide +kernel
theorem dX4_shares_47 : decode cX4_shares 47 = .ok (.if_icmp .ne 5, 3) := by decide +kernel
theorem dX4_shares_50 : decode cX4_shares 50 = .ok (.iconst (-1), 1) := by decide +kernel
theorem dX4_shares_51 : decode cX4_shares 51 = .ok (.ireturn, 1) := by decide +kernel
theorem dX4_shares_52 : decode cX4_shares 52 = .ok (.iload_n 3, 1) := by decide +kernel
theorem dX4_shares_53 : decode cX4_shares 53 = .ok (.iload 4, 2) := by decide +kernel
theorem dX4_shares_55 : decode cX4_shares 55 = .ok (.isub, 1) := by decide +kernel
theorem dX4_shares_56 : decode cX4_shares 56 = .ok (.istore 5, 2) := by decide +kernel
theorem dX4_shares_58 : decode cX4_shares 58 = .ok (.iload_n 2, 1) := by decide +kernel
theorem dX4_shares_59 : decode cX4_shares 59 = .ok (.iload_n 1, 1) := by decide +kernel
theorem dX4_shares_60 : decode cX4_shares 60 = .ok (.iload 4, 2) := by decide +kernel
theorem dX4_shares_62 : decode cX4_shares 62 = .ok (.imul, 1) := by decide +kernel
theorem dX4_shares_63 : decode cX4_shares 63 = .ok (.isub, 1) := by decide +kernel
theorem dX4_shares_64 : decode cX4_shares 64 = .ok (.istore 6, 2) := by decide +kernel
theorem dX4_shares_66 : decode cX4_shares 66 = .ok (.iload 5, 2) := by decide +kernel
theorem dX4_shares_68 : decode cX4_shares 68 = .ok (.ifCond .eq 11, 3) := by decide +kernel
theorem dX4_shares_71 : decode cX4_shares 71 = .ok (.iload 6, 2) := by decide +kernel
theorem dX4_shares_73 : decode cX4_shares 73 = .ok (.iload 5, 2) := by decide +kernel
theorem dX4_shares_75 : decode cX4_shares 75 = .ok (.irem, 1) := by decide +kernel
theorem dX4_shares_76 : decode cX4_shares 76 = .ok (.ifCond .eq 6, 3) := by decide +kernel
theorem dX4_shares_79 : decode cX4_shares 79 = .ok (.bipush (-4), 2) := by decide +kernel
theorem dX4_shares_81 : decode cX4_shares 81 = .ok (.ireturn, 1) := by decide +kernel
theorem dX4_shares_82 : decode cX4_shares 82 = .ok (.iload 6, 2) := by decide +kernel
theorem dX4_shares_84 : decode cX4_shares 84 = .ok (.iload 5, 2) := by decide +kernel
theorem dX4_shares_86 : decode cX4_shares 86 = .ok (.idiv, 1) := by decide +kernel
theorem dX4_shares_87 : decode cX4_shares 87 = .ok (.istore 7, 2) := by decide +kernel
theorem dX4_shares_89 : decode cX4_shares 89 = .ok (.iload 7, 2) := by decide +kernel
theorem dX4_shares_91 : decode cX4_shares 91 = .ok (.iconst 0, 1) := by decide +kernel
theorem dX4_shares_92 : decode cX4_shares 92 = .ok (.iload_n 1, 1) := by decide +kernel
theorem dX4_shares_93 : decode cX4_shares 93 = .ok (.invokestatic 47, 3) := by decide +kernel
theorem dX4_shares_96 : decode cX4_shares 96 = .ok (.ifCond .eq 8, 3) := by decide +kernel
theorem dX4_shares_99 : decode cX4_shares 99 = .ok (.iload 7, 2) := by decide +kernel
theorem dX4_shares_101 : decode cX4_shares 101 = .ok (.goto 5, 3) := by decide +kernel
theorem dX4_shares_104 : decode cX4_shares 104 = .ok (.bipush (-4), 2) := by decide +kernel
theorem dX4_shares_106 : decode cX4_shares 106 = .ok (.ireturn, 1) := by decide +kernel
theorem dX4_image_0 : decode cX4_image 0 = .ok (.aload_n 0, 1) := by decide +kernel
theorem dX4_image_1 : decode cX4_image 1 = .ok (.getfield 19, 3) := by decide +kernel
theorem dX4_image_4 : decode cX4_image 4 = .ok (.aload_n 0, 1) := by decide +kernel
theorem dX4_image_5 : decode cX4_image 5 = .ok (.getfield 10, 3) := by decide +kernel
theorem dX4_image_8 : decode cX4_image 8 = .ok (.invokevirtual 187, 3) := by decide +kernel
theorem dX4_image_11 : decode cX4_image 11 = .ok (.aload_n 0, 1) := by decide +kernel
theorem dX4_image_12 : decode cX4_image 12 = .ok (.iconst 1, 1) := by decide +kernel
theorem dX4_image_13 : decode cX4_image 13 = .ok (.putfield 22, 3) := by decide +kernel
theorem dX4_image_16 : decode cX4_image 16 = .ok (.iconst 1, 1) := by decide +kernel
theorem dX4_image_17 : decode cX4_image 17 = .ok (.ireturn, 1) := by decide +kernel
theorem dX4_restore_0 : decode cX4_restore 0 = .ok (.aload_n 0, 1) := by decide +kernel
theorem dX4_restore_1 : decode cX4_restore 1 = .ok (.getfield 22, 3) := by decide +kernel
theorem dX4_restore_4 : decode cX4_restore 4 = .ok (.ifCond .ne 6, 3) := by decide +kernel
theorem dX4_restore_7 : decode cX4_restore 7 = .ok (.bipush (-4), 2) := by decide +kernel
theorem dX4_restore_9 : decode cX4_restore 9 = .ok (.ireturn, 1) := by decide +kernel
theorem dX4_restore_10 : decode cX4_restore 10 = .ok (.aload_n 0, 1) := by decide +kernel
theorem dX4_restore_11 : decode cX4_restore 11 = .ok (.getfield 10, 3) := by decide +kernel
theorem dX4_restore_14 : decode cX4_restore 14 = .ok (.aload_n 0, 1) := by decide +kernel
theorem dX4_restore_15 : decode cX4_restore 15 = .ok (.getfield 19, 3) := by decide +kernel
theorem dX4_restore_18 : decode cX4_restore 18 = .ok (.invokevirtual 187, 3) := by decide +kernel
theorem dX4_restore_21 : decode cX4_restore 21 = .ok (.iconst 1, 1) := by decide +kernel
theorem dX4_restore_22 : decode cX4_restore 22 = .ok (.ireturn, 1) := by decide +kernel
theorem dX4_meshes_0 : decode cX4_meshes 0 = .ok (.aload_n 0, 1) := by decide +kernel
theorem dX4_meshes_1 : decode cX4_meshes 1 = .ok (.iload_n 2, 1) := by decide +kernel
theorem dX4_meshes_2 : decode cX4_meshes 2 = .ok (.invokevirtual 221, 3) := by decide +kernel
theorem dX4_meshes_5 : decode cX4_meshes 5 = .ok (.astore 5, 2) := by decide +kernel
theorem dX4_meshes_7 : decode cX4_meshes 7 = .ok (.aload_n 0, 1) := by decide +kernel
theorem dX4_meshes_8 : decode cX4_meshes 8 = .ok (.getfield 10, 3) := by decide +kernel
theorem dX4_meshes_11 : decode cX4_meshes 11 = .ok (.iload_n 1, 1) := by decide +kernel
theorem dX4_meshes_12 : decode cX4_meshes 12 = .ok (.invokevirtual 85, 3) := by decide +kernel
theorem dX4_meshes_15 : decode cX4_meshes 15 = .ok (.ifCond .eq 15, 3) := by decide +kernel
theorem dX4_meshes_18 : decode cX4_meshes 18 = .ok (.aload 5, 2) := by decide +kernel
theorem dX4_meshes_20 : decode cX4_meshes 20 = .ok (.ifnull 10, 3) := by decide +kernel
theorem dX4_meshes_23 : decode cX4_meshes 23 = .ok (.iload_n 3, 1) := by decide +kernel
theorem dX4_meshes_24 : decode cX4_meshes 24 = .ok (.invokestatic 225, 3) := by decide +kernel
theorem dX4_meshes_27 : decode cX4_meshes 27 = .ok (.ifCond .ne 7, 3) := by decide +kernel
theorem dX4_meshes_30 : decode cX4_meshes 30 = .ok (.ldc2_w 215, 3) := by decide +kernel
theorem dX4_meshes_33 : decode cX4_meshes 33 = .ok (.lreturn, 1) := by decide +kernel
theorem dX4_meshes_34 : decode cX4_meshes 34 = .ok (.aload_n 0, 1) := by decide +kernel
theorem dX4_meshes_35 : decode cX4_meshes 35 = .ok (.getfield 10, 3) := by decide +kernel
theorem dX4_meshes_38 : decode cX4_meshes 38 = .ok (.iload_n 1, 1) := by decide +kernel
theorem dX4_meshes_39 : decode cX4_meshes 39 = .ok (.invokevirtual 228, 3) := by decide +kernel
theorem dX4_meshes_42 : decode cX4_meshes 42 = .ok (.ifCond .eq 18, 3) := by decide +kernel
theorem dX4_meshes_45 : decode cX4_meshes 45 = .ok (.aload_n 0, 1) := by decide +kernel
theorem dX4_meshes_46 : decode cX4_meshes 46 = .ok (.getfield 10, 3) := by decide +kernel
theorem dX4_meshes_49 : decode cX4_meshes 49 = .ok (.getfield 88, 3) := by decide +kernel
theorem dX4_meshes_52 : decode cX4_meshes 52 = .ok (.iload_n 1, 1) := by decide +kernel
theorem dX4_meshes_53 : decode cX4_meshes 53 = .ok (.invokestatic 91, 3) := by decide +kernel
theorem dX4_meshes_56 : decode cX4_meshes 56 = .ok (.iconst 3, 1) := by decide +kernel
theorem dX4_meshes_57 : decode cX4_meshes 57 = .ok (.if_icmp .ne 7, 3) := by decide +kernel
theorem dX4_meshes_60 : decode cX4_meshes 60 = .ok (.ldc2_w 231, 3) := by decide +kernel
theorem dX4_meshes_63 : decode cX4_meshes 63 = .ok (.lreturn, 1) := by decide +kernel
theorem dX4_meshes_64 : decode cX4_meshes 64 = .ok (.aload 5, 2) := by decide +kernel
theorem dX4_meshes_66 : decode cX4_meshes 66 = .ok (.iload_n 3, 1) := by decide +kernel
theorem dX4_meshes_67 : decode cX4_meshes 67 = .ok (.iload 4, 2) := by decide +kernel
theorem dX4_meshes_69 : decode cX4_meshes 69 = .ok (.aload_n 0, 1) := by decide +kernel
theorem dX4_meshes_70 : decode cX4_meshes 70 = .ok (.getfield 10, 3) := by decide +kernel
theorem dX4_meshes_73 : decode cX4_meshes 73 = .ok (.getfield 51, 3) := by decide +kernel
theorem dX4_meshes_76 : decode cX4_meshes 76 = .ok (.invokevirtual 233, 3) := by decide +kernel
theorem dX4_meshes_79 : decode cX4_meshes 79 = .ok (.istore 6, 2) := by decide +kernel
theorem dX4_meshes_81 : decode cX4_meshes 81 = .ok (.iload 6, 2) := by decide +kernel
theorem dX4_meshes_83 : decode cX4_meshes 83 = .ok (.ifCond .eq 7, 3) := by decide +kernel
theorem dX4_meshes_86 : decode cX4_meshes 86 = .ok (.iload 6, 2) := by decide +kernel
theorem dX4_meshes_88 : decode cX4_meshes 88 = .ok (.i2l, 1) := by decide +kernel
theorem dX4_meshes_89 : decode cX4_meshes 89 = .ok (.lreturn, 1) := by decide +kernel
theorem dX4_meshes_90 : decode cX4_meshes 90 = .ok (.aload_n 0, 1) := by decide +kernel
theorem dX4_meshes_91 : decode cX4_meshes 91 = .ok (.getfield 16, 3) := by decide +kernel
theorem dX4_meshes_94 : decode cX4_meshes 94 = .ok (.aload_n 0, 1) := by decide +kernel
theorem dX4_meshes_95 : decode cX4_meshes 95 = .ok (.getfield 10, 3) := by decide +kernel
theorem dX4_meshes_98 : decode cX4_meshes 98 = .ok (.invokevirtual 187, 3) := by decide +kernel
theorem dX4_meshes_101 : decode cX4_meshes 101 = .ok (.lconst 0, 1) := by decide +kernel
theorem dX4_meshes_102 : decode cX4_meshes 102 = .ok (.lstore 7, 2) := by decide +kernel
theorem dX4_meshes_104 : decode cX4_meshes 104 = .ok (.iconst 1, 1) := by decide +kernel
theorem dX4_meshes_105 : decode cX4_meshes 105 = .ok (.istore 9, 2) := by decide +kernel
theorem dX4_meshes_107 : decode cX4_meshes 107 = .ok (.iload 9, 2) := by decide +kernel
theorem dX4_meshes_109 : decode cX4_meshes 109 = .ok (.bipush 60, 2) := by decide +kernel
theorem dX4_meshes_111 : decode cX4_meshes 111 = .ok (.if_icmp .gt 47, 3) := by decide +kernel
theorem dX4_meshes_114 : decode cX4_meshes 114 = .ok (.aload_n 0, 1) := by decide +kernel
theorem dX4_meshes_115 : decode cX4_meshes 115 = .ok (.getfield 16, 3) := by decide +kernel
theorem dX4_meshes_118 : decode cX4_meshes 118 = .ok (.getfield 95, 3) := by decide +kernel
theorem dX4_meshes_121 : decode cX4_meshes 121 = .ok (.iload_n 1, 1) := by decide +kernel
theorem dX4_meshes_122 : decode cX4_meshes 122 = .ok (.iload 9, 2) := by decide +kernel
theorem dX4_meshes_124 : decode cX4_meshes 124 = .ok (.invokestatic 236, 3) := by decide +kernel
theorem dX4_meshes_127 : decode cX4_meshes 127 = .ok (.aload_n 0, 1) := by decide +kernel
theorem dX4_meshes_128 : decode cX4_meshes 128 = .ok (.getfield 16, 3) := by decide +kernel
theorem dX4_meshes_131 : decode cX4_meshes 131 = .ok (.aload 5, 2) := by decide +kernel
theorem dX4_meshes_133 : decode cX4_meshes 133 = .ok (.iload 4, 2) := by decide +kernel
theorem dX4_meshes_135 : decode cX4_meshes 135 = .ok (.invokestatic 240, 3) := by decide +kernel
theorem dX4_meshes_138 : decode cX4_meshes 138 = .ok (.ifCond .eq 14, 3) := by decide +kernel
theorem dX4_meshes_141 : decode cX4_meshes 141 = .ok (.lload 7, 2) := by decide +kernel
theorem dX4_meshes_143 : decode cX4_meshes 143 = .ok (.lconst 1, 1) := by decide +kernel
theorem dX4_meshes_144 : decode cX4_meshes 144 = .ok (.iload 9, 2) := by decide +kernel
theorem dX4_meshes_146 : decode cX4_meshes 146 = .ok (.iconst 1, 1) := by decide +kernel
theorem dX4_meshes_147 : decode cX4_meshes 147 = .ok (.isub, 1) := by decide +kernel
theorem dX4_meshes_148 : decode cX4_meshes 148 = .ok (.lshl, 1) := by decide +kernel
theorem dX4_meshes_149 : decode cX4_meshes 149 = .ok (.lor, 1) := by decide +kernel
theorem dX4_meshes_150 : decode cX4_meshes 150 = .ok (.lstore 7, 2) := by decide +kernel
theorem dX4_meshes_152 : decode cX4_meshes 152 = .ok (.iinc 9 1, 3) := by decide +kernel
theorem dX4_meshes_155 : decode cX4_meshes 155 = .ok (.goto (-48), 3) := by decide +kernel
theorem dX4_meshes_158 : decode cX4_meshes 158 = .ok (.lload 7, 2) := by decide +kernel
theorem dX4_meshes_160 : decode cX4_meshes 160 = .ok (.lreturn, 1) := by decide +kernel
theorem dX4_torn_0 : decode cX4_torn 0 = .ok (.aload_n 0, 1) := by decide +kernel
theorem dX4_torn_1 : decode cX4_torn 1 = .ok (.iload_n 1, 1) := by decide +kernel
theorem dX4_torn_2 : decode cX4_torn 2 = .ok (.invokevirtual 221, 3) := by decide +kernel
theorem dX4_torn_5 : decode cX4_torn 5 = .ok (.astore 4, 2) := by decide +kernel
theorem dX4_torn_7 : decode cX4_torn 7 = .ok (.aload 4, 2) := by decide +kernel
theorem dX4_torn_9 : decode cX4_torn 9 = .ok (.ifnull 10, 3) := by decide +kernel
theorem dX4_torn_12 : decode cX4_torn 12 = .ok (.iload_n 2, 1) := by decide +kernel
theorem dX4_torn_13 : decode cX4_torn 13 = .ok (.invokestatic 225, 3) := by decide +kernel
theorem dX4_torn_16 : decode cX4_torn 16 = .ok (.ifCond .ne 5, 3) := by decide +kernel
theorem dX4_torn_19 : decode cX4_torn 19 = .ok (.iconst (-1), 1) := by decide +kernel
theorem dX4_torn_20 : decode cX4_torn 20 = .ok (.ireturn, 1) := by decide +kernel
theorem dX4_torn_21 : decode cX4_torn 21 = .ok (.aload 4, 2) := by decide +kernel
theorem dX4_torn_23 : decode cX4_torn 23 = .ok (.iload_n 2, 1) := by decide +kernel
theorem dX4_torn_24 : decode cX4_torn 24 = .ok (.iload_n 3, 1) := by decide +kernel
theorem dX4_torn_25 : decode cX4_torn 25 = .ok (.aload_n 0, 1) := by decide +kernel
theorem dX4_torn_26 : decode cX4_torn 26 = .ok (.getfield 10, 3) := by decide +kernel
theorem dX4_torn_29 : decode cX4_torn 29 = .ok (.getfield 51, 3) := by decide +kernel
theorem dX4_torn_32 : decode cX4_torn 32 = .ok (.invokevirtual 233, 3) := by decide +kernel
theorem dX4_torn_35 : decode cX4_torn 35 = .ok (.istore 5, 2) := by decide +kernel
theorem dX4_torn_37 : decode cX4_torn 37 = .ok (.iload 5, 2) := by decide +kernel
theorem dX4_torn_39 : decode cX4_torn 39 = .ok (.ifCond .eq 6, 3) := by decide +kernel
theorem dX4_torn_42 : decode cX4_torn 42 = .ok (.iload 5, 2) := by decide +kernel
theorem dX4_torn_44 : decode cX4_torn 44 = .ok (.ireturn, 1) := by decide +kernel
theorem dX4_torn_45 : decode cX4_torn 45 = .ok (.aload_n 0, 1) := by decide +kernel
theorem dX4_torn_46 : decode cX4_torn 46 = .ok (.getfield 10, 3) := by decide +kernel
theorem dX4_torn_49 : decode cX4_torn 49 = .ok (.aload 4, 2) := by decide +kernel
theorem dX4_torn_51 : decode cX4_torn 51 = .ok (.iload_n 3, 1) := by decide +kernel
theorem dX4_torn_52 : decode cX4_torn 52 = .ok (.invokestatic 240, 3) := by decide +kernel
theorem dX4_torn_55 : decode cX4_torn 55 = .ok (.ifCond .eq 9, 3) := by decide +kernel
theorem dX4_torn_58 : decode cX4_torn 58 = .ok (.sipush 128, 3) := by decide +kernel
theorem dX4_torn_61 : decode cX4_torn 61 = .ok (.goto 4, 3) := by decide +kernel
theorem dX4_torn_64 : decode cX4_torn 64 = .ok (.iconst 0, 1) := by decide +kernel
theorem dX4_torn_65 : decode cX4_torn 65 = .ok (.istore 6, 2) := by decide +kernel
theorem dX4_torn_67 : decode cX4_torn 67 = .ok (.aload_n 0, 1) := by decide +kernel
theorem dX4_torn_68 : decode cX4_torn 68 = .ok (.getfield 16, 3) := by decide +kernel
theorem dX4_torn_71 : decode cX4_torn 71 = .ok (.aload_n 0, 1) := by decide +kernel
theorem dX4_torn_72 : decode cX4_torn 72 = .ok (.getfield 10, 3) := by decide +kernel
theorem dX4_torn_75 : decode cX4_torn 75 = .ok (.invokevirtual 187, 3) := by decide +kernel
theorem dX4_torn_78 : decode cX4_torn 78 = .ok (.iconst 0, 1) := by decide +kernel
theorem dX4_torn_79 : decode cX4_torn 79 = .ok (.istore 7, 2) := by decide +kernel
theorem dX4_torn_81 : decode cX4_torn 81 = .ok (.iload 7, 2) := by decide +kernel
theorem dX4_torn_83 : decode cX4_torn 83 = .ok (.aload_n 0, 1) := by decide +kernel
theorem dX4_torn_84 : decode cX4_torn 84 = .ok (.getfield 10, 3) := by decide +kernel
theorem dX4_torn_87 : decode cX4_torn 87 = .ok (.getfield 125, 3) := by decide +kernel
theorem dX4_torn_90 : decode cX4_torn 90 = .ok (.if_icmp .ge 74, 3) := by decide +kernel
theorem dX4_torn_93 : decode cX4_torn 93 = .ok (.aload_n 0, 1) := by decide +kernel
theorem dX4_torn_94 : decode cX4_torn 94 = .ok (.getfield 10, 3) := by decide +kernel
theorem dX4_torn_97 : decode cX4_torn 97 = .ok (.getfield 170, 3) := by decide +kernel
theorem dX4_torn_100 : decode cX4_torn 100 = .ok (.iload 7, 2) := by decide +kernel
theorem dX4_torn_102 : decode cX4_torn 102 = .ok (.invokestatic 91, 3) := by decide +kernel
theorem dX4_torn_105 : decode cX4_torn 105 = .ok (.istore 8, 2) := by decide +kernel
theorem dX4_torn_107 : decode cX4_torn 107 = .ok (.aload_n 0, 1) := by decide +kernel
theorem dX4_torn_108 : decode cX4_torn 108 = .ok (.getfield 16, 3) := by decide +kernel
theorem dX4_torn_111 : decode cX4_torn 111 = .ok (.getfield 88, 3) := by decide +kernel
theorem dX4_torn_114 : decode cX4_torn 114 = .ok (.iload 8, 2) := by decide +kernel
theorem dX4_torn_116 : decode cX4_torn 116 = .ok (.iconst 3, 1) := by decide +kernel
theorem dX4_torn_117 : decode cX4_torn 117 = .ok (.invokestatic 67, 3) := by decide +kernel
theorem dX4_torn_120 : decode cX4_torn 120 = .ok (.istore 9, 2) := by decide +kernel
theorem dX4_torn_122 : decode cX4_torn 122 = .ok (.aload_n 0, 1) := by decide +kernel
theorem dX4_torn_123 : decode cX4_torn 123 = .ok (.getfield 16, 3) := by decide +kernel
theorem dX4_torn_126 : decode cX4_torn 126 = .ok (.aload 4, 2) := by decide +kernel
theorem dX4_torn_128 : decode cX4_torn 128 = .ok (.iload_n 3, 1) := by decide +kernel
theorem dX4_torn_129 : decode cX4_torn 129 = .ok (.invokestatic 240, 3) := by decide +kernel
theorem dX4_torn_132 : decode cX4_torn 132 = .ok (.ifCond .eq 12, 3) := by decide +kernel
theorem dX4_torn_135 : decode cX4_torn 135 = .ok (.iload 6, 2) := by decide +kernel
theorem dX4_torn_137 : decode cX4_torn 137 = .ok (.iconst 1, 1) := by decide +kernel
theorem dX4_torn_138 : decode cX4_torn 138 = .ok (.iload 7, 2) := by decide +kernel
theorem dX4_torn_140 : decode cX4_torn 140 = .ok (.ishl, 1) := by decide +kernel
theorem dX4_torn_141 : decode cX4_torn 141 = .ok (.ior, 1) := by decide +kernel
theorem dX4_torn_142 : decode cX4_torn 142 = .ok (.istore 6, 2) := by decide +kernel
theorem dX4_torn_144 : decode cX4_torn 144 = .ok (.aload_n 0, 1) := by decide +kernel
theorem dX4_torn_145 : decode cX4_torn 145 = .ok (.getfield 16, 3) := by decide +kernel
theorem dX4_torn_148 : decode cX4_torn 148 = .ok (.getfield 88, 3) := by decide +kernel
theorem dX4_torn_151 : decode cX4_torn 151 = .ok (.iload 8, 2) := by decide +kernel
theorem dX4_torn_153 : decode cX4_torn 153 = .ok (.iload 9, 2) := by decide +kernel
theorem dX4_torn_155 : decode cX4_torn 155 = .ok (.invokestatic 236, 3) := by decide +kernel
theorem dX4_torn_158 : decode cX4_torn 158 = .ok (.iinc 7 1, 3) := by decide +kernel
theorem dX4_torn_161 : decode cX4_torn 161 = .ok (.goto (-80), 3) := by decide +kernel
theorem dX4_torn_164 : decode cX4_torn 164 = .ok (.iload 6, 2) := by decide +kernel
theorem dX4_torn_166 : decode cX4_torn 166 = .ok (.ireturn, 1) := by decide +kernel
theorem dX4_sheet_0 : decode cX4_sheet 0 = .ok (.aload_n 0, 1) := by decide +kernel
theorem dX4_sheet_1 : decode cX4_sheet 1 = .ok (.iload_n 1, 1) := by decide +kernel
theorem dX4_sheet_2 : decode cX4_sheet 2 = .ok (.invokevirtual 221, 3) := by decide +kernel
theorem dX4_sheet_5 : decode cX4_sheet 5 = .ok (.astore 4, 2) := by decide +kernel
theorem dX4_sheet_7 : decode cX4_sheet 7 = .ok (.aload 4, 2) := by decide +kernel
theorem dX4_sheet_9 : decode cX4_sheet 9 = .ok (.ifnull 16, 3) := by decide +kernel
theorem dX4_sheet_12 : decode cX4_sheet 12 = .ok (.iload_n 2, 1) := by decide +kernel
theorem dX4_sheet_13 : decode cX4_sheet 13 = .ok (.invokestatic 225, 3) := by decide +kernel
theorem dX4_sheet_16 : decode cX4_sheet 16 = .ok (.ifCond .eq 9, 3) := by decide +kernel
theorem dX4_sheet_19 : decode cX4_sheet 19 = .ok (.iload_n 3, 1) := by decide +kernel
theorem dX4_sheet_20 : decode cX4_sheet 20 = .ok (.bipush 24, 2) := by decide +kernel
theorem dX4_sheet_22 : decode cX4_sheet 22 = .ok (.if_icmp .le 5, 3) := by decide +kernel
theorem dX4_sheet_25 : decode cX4_sheet 25 = .ok (.iconst (-1), 1) := by decide +kernel
theorem dX4_sheet_26 : decode cX4_sheet 26 = .ok (.ireturn, 1) := by decide +kernel
theorem dX4_sheet_27 : decode cX4_sheet 27 = .ok (.iload_n 3, 1) := by decide +kernel
theorem dX4_sheet_28 : decode cX4_sheet 28 = .ok (.ifCond .ge 6, 3) := by decide +kernel
theorem dX4_sheet_31 : decode cX4_sheet 31 = .ok (.bipush (-14), 2) := by decide +kernel
theorem dX4_sheet_33 : decode cX4_sheet 33 = .ok (.ireturn, 1) := by decide +kernel
theorem dX4_sheet_34 : decode cX4_sheet 34 = .ok (.aload 4, 2) := by decide +kernel
theorem dX4_sheet_36 : decode cX4_sheet 36 = .ok (.iload_n 2, 1) := by decide +kernel
theorem dX4_sheet_37 : decode cX4_sheet 37 = .ok (.iload_n 3, 1) := by decide +kernel
theorem dX4_sheet_38 : decode cX4_sheet 38 = .ok (.invokevirtual 244, 3) := by decide +kernel
theorem dX4_sheet_41 : decode cX4_sheet 41 = .ok (.iload_n 3, 1) := by decide +kernel
theorem dX4_sheet_42 : decode cX4_sheet 42 = .ok (.ireturn, 1) := by decide +kernel
theorem dX4_drop_0 : decode cX4_drop 0 = .ok (.aload_n 0, 1) := by decide +kernel
theorem dX4_drop_1 : decode cX4_drop 1 = .ok (.iload_n 1, 1) := by decide +kernel
theorem dX4_drop_2 : decode cX4_drop 2 = .ok (.invokevirtual 221, 3) := by decide +kernel
theorem dX4_drop_5 : decode cX4_drop 5 = .ok (.astore_n 2, 1) := by decide +kernel
theorem dX4_drop_6 : decode cX4_drop 6 = .ok (.aload_n 2, 1) := by decide +kernel
theorem dX4_drop_7 : decode cX4_drop 7 = .ok (.ifnonnull 5, 3) := by decide +kernel
theorem dX4_drop_10 : decode cX4_drop 10 = .ok (.iconst (-1), 1) := by decide +kernel
theorem dX4_drop_11 : decode cX4_drop 11 = .ok (.ireturn, 1) := by decide +kernel
theorem dX4_drop_12 : decode cX4_drop 12 = .ok (.aload_n 2, 1) := by decide +kernel
theorem dX4_drop_13 : decode cX4_drop 13 = .ok (.getfield 247, 3) := by decide +kernel
theorem dX4_drop_16 : decode cX4_drop 16 = .ok (.iconst (-1), 1) := by decide +kernel
theorem dX4_drop_17 : decode cX4_drop 17 = .ok (.if_icmp .ne 6, 3) := by decide +kernel
theorem dX4_drop_20 : decode cX4_drop 20 = .ok (.bipush (-11), 2) := by decide +kernel
theorem dX4_drop_22 : decode cX4_drop 22 = .ok (.ireturn, 1) := by decide +kernel
theorem dX4_drop_23 : decode cX4_drop 23 = .ok (.aload_n 2, 1) := by decide +kernel
theorem dX4_drop_24 : decode cX4_drop 24 = .ok (.getfield 250, 3) := by decide +kernel
theorem dX4_drop_27 : decode cX4_drop 27 = .ok (.istore_n 3, 1) := by decide +kernel
theorem dX4_drop_28 : decode cX4_drop 28 = .ok (.aload_n 2, 1) := by decide +kernel
theorem dX4_drop_29 : decode cX4_drop 29 = .ok (.iconst (-1), 1) := by decide +kernel
theorem dX4_drop_30 : decode cX4_drop 30 = .ok (.iconst 0, 1) := by decide +kernel
theorem dX4_drop_31 : decode cX4_drop 31 = .ok (.invokevirtual 244, 3) := by decide +kernel
theorem dX4_drop_34 : decode cX4_drop 34 = .ok (.iload_n 3, 1) := by decide +kernel
theorem dX4_drop_35 : decode cX4_drop 35 = .ok (.ireturn, 1) := by decide +kernel
theorem dX4_item_0 : decode cX4_item 0 = .ok (.aload_n 0, 1) := by decide +kernel
theorem dX4_item_1 : decode cX4_item 1 = .ok (.iload_n 1, 1) := by decide +kernel
theorem dX4_item_2 : decode cX4_item 2 = .ok (.invokevirtual 221, 3) := by decide +kernel
theorem dX4_item_5 : decode cX4_item 5 = .ok (.astore 5, 2) := by decide +kernel
theorem dX4_item_7 : decode cX4_item 7 = .ok (.aload 5, 2) := by decide +kernel
theorem dX4_item_9 : decode cX4_item 9 = .ok (.ifnull 10, 3) := by decide +kernel
theorem dX4_item_12 : decode cX4_item 12 = .ok (.iload_n 2, 1) := by decide +kernel
theorem dX4_item_13 : decode cX4_item 13 = .ok (.invokestatic 225, 3) := by decide +kernel
theorem dX4_item_16 : decode cX4_item 16 = .ok (.ifCond .ne 5, 3) := by decide +kernel
theorem dX4_item_19 : decode cX4_item 19 = .ok (.iconst (-1), 1) := by decide +kernel
end
section
theorem dX4_item_20 : decode cX4_item 20 = .ok (.ireturn, 1) := by decide +kernel
theorem dX4_item_21 : decode cX4_item 21 = .ok (.aload 5, 2) := by decide +kernel
theorem dX4_item_23 : decode cX4_item 23 = .ok (.iload_n 2, 1) := by decide +kernel
theorem dX4_item_24 : decode cX4_item 24 = .ok (.iload_n 3, 1) := by decide +kernel
theorem dX4_item_25 : decode cX4_item 25 = .ok (.iconst 1, 1) := by decide +kernel
theorem dX4_item_26 : decode cX4_item 26 = .ok (.invokevirtual 233, 3) := by decide +kernel
theorem dX4_item_29 : decode cX4_item 29 = .ok (.istore 6, 2) := by decide +kernel
theorem dX4_item_31 : decode cX4_item 31 = .ok (.iload 6, 2) := by decide +kernel
theorem dX4_item_33 : decode cX4_item 33 = .ok (.ifCond .eq 6, 3) := by decide +kernel
theorem dX4_item_36 : decode cX4_item 36 = .ok (.iload 6, 2) := by decide +kernel
theorem dX4_item_38 : decode cX4_item 38 = .ok (.ireturn, 1) := by decide +kernel
theorem dX4_item_39 : decode cX4_item 39 = .ok (.aload 5, 2) := by decide +kernel
theorem dX4_item_41 : decode cX4_item 41 = .ok (.iload_n 3, 1) := by decide +kernel
theorem dX4_item_42 : decode cX4_item 42 = .ok (.iload 4, 2) := by decide +kernel
theorem dX4_item_44 : decode cX4_item 44 = .ok (.invokevirtual 251, 3) := by decide +kernel
theorem dX4_item_47 : decode cX4_item 47 = .ok (.iconst 1, 1) := by decide +kernel
theorem dX4_item_48 : decode cX4_item 48 = .ok (.ireturn, 1) := by decide +kernel
theorem dX4_film_0 : decode cX4_film 0 = .ok (.aload_n 0, 1) := by decide +kernel
theorem dX4_film_1 : decode cX4_film 1 = .ok (.iload_n 1, 1) := by decide +kernel
theorem dX4_film_2 : decode cX4_film 2 = .ok (.invokevirtual 221, 3) := by decide +kernel
theorem dX4_film_5 : decode cX4_film 5 = .ok (.astore 4, 2) := by decide +kernel
theorem dX4_film_7 : decode cX4_film 7 = .ok (.aload 4, 2) := by decide +kernel
theorem dX4_film_9 : decode cX4_film 9 = .ok (.ifnull 10, 3) := by decide +kernel
theorem dX4_film_12 : decode cX4_film 12 = .ok (.iload_n 2, 1) := by decide +kernel
theorem dX4_film_13 : decode cX4_film 13 = .ok (.invokestatic 225, 3) := by decide +kernel
theorem dX4_film_16 : decode cX4_film 16 = .ok (.ifCond .ne 5, 3) := by decide +kernel
theorem dX4_film_19 : decode cX4_film 19 = .ok (.iconst (-1), 1) := by decide +kernel
theorem dX4_film_20 : decode cX4_film 20 = .ok (.ireturn, 1) := by decide +kernel
theorem dX4_film_21 : decode cX4_film 21 = .ok (.aload 4, 2) := by decide +kernel
theorem dX4_film_23 : decode cX4_film 23 = .ok (.iload_n 2, 1) := by decide +kernel
theorem dX4_film_24 : decode cX4_film 24 = .ok (.iload_n 3, 1) := by decide +kernel
theorem dX4_film_25 : decode cX4_film 25 = .ok (.aload_n 0, 1) := by decide +kernel
theorem dX4_film_26 : decode cX4_film 26 = .ok (.getfield 10, 3) := by decide +kernel
theorem dX4_film_29 : decode cX4_film 29 = .ok (.getfield 51, 3) := by decide +kernel
theorem dX4_film_32 : decode cX4_film 32 = .ok (.invokevirtual 233, 3) := by decide +kernel
theorem dX4_film_35 : decode cX4_film 35 = .ok (.istore 5, 2) := by decide +kernel
theorem dX4_film_37 : decode cX4_film 37 = .ok (.iload 5, 2) := by decide +kernel
theorem dX4_film_39 : decode cX4_film 39 = .ok (.ifCond .eq 6, 3) := by decide +kernel
theorem dX4_film_42 : decode cX4_film 42 = .ok (.iload 5, 2) := by decide +kernel
theorem dX4_film_44 : decode cX4_film 44 = .ok (.ireturn, 1) := by decide +kernel
theorem dX4_film_45 : decode cX4_film 45 = .ok (.aload_n 0, 1) := by decide +kernel
theorem dX4_film_46 : decode cX4_film 46 = .ok (.getfield 10, 3) := by decide +kernel
theorem dX4_film_49 : decode cX4_film 49 = .ok (.invokevirtual 158, 3) := by decide +kernel
theorem dX4_film_52 : decode cX4_film 52 = .ok (.iconst 0, 1) := by decide +kernel
theorem dX4_film_53 : decode cX4_film 53 = .ok (.istore 6, 2) := by decide +kernel
theorem dX4_film_55 : decode cX4_film 55 = .ok (.iload 6, 2) := by decide +kernel
theorem dX4_film_57 : decode cX4_film 57 = .ok (.aload_n 0, 1) := by decide +kernel
theorem dX4_film_58 : decode cX4_film 58 = .ok (.getfield 10, 3) := by decide +kernel
theorem dX4_film_61 : decode cX4_film 61 = .ok (.getfield 51, 3) := by decide +kernel
theorem dX4_film_64 : decode cX4_film 64 = .ok (.if_icmp .ge 27, 3) := by decide +kernel
theorem dX4_film_67 : decode cX4_film 67 = .ok (.aload 4, 2) := by decide +kernel
theorem dX4_film_69 : decode cX4_film 69 = .ok (.iload_n 3, 1) := by decide +kernel
theorem dX4_film_70 : decode cX4_film 70 = .ok (.iload 6, 2) := by decide +kernel
theorem dX4_film_72 : decode cX4_film 72 = .ok (.iadd, 1) := by decide +kernel
theorem dX4_film_73 : decode cX4_film 73 = .ok (.aload_n 0, 1) := by decide +kernel
theorem dX4_film_74 : decode cX4_film 74 = .ok (.getfield 10, 3) := by decide +kernel
theorem dX4_film_77 : decode cX4_film 77 = .ok (.iload 6, 2) := by decide +kernel
theorem dX4_film_79 : decode cX4_film 79 = .ok (.invokevirtual 167, 3) := by decide +kernel
theorem dX4_film_82 : decode cX4_film 82 = .ok (.invokevirtual 251, 3) := by decide +kernel
theorem dX4_film_85 : decode cX4_film 85 = .ok (.iinc 6 1, 3) := by decide +kernel
theorem dX4_film_88 : decode cX4_film 88 = .ok (.goto (-33), 3) := by decide +kernel
theorem dX4_film_91 : decode cX4_film 91 = .ok (.aload_n 0, 1) := by decide +kernel
theorem dX4_film_92 : decode cX4_film 92 = .ok (.getfield 10, 3) := by decide +kernel
theorem dX4_film_95 : decode cX4_film 95 = .ok (.getfield 51, 3) := by decide +kernel
theorem dX4_film_98 : decode cX4_film 98 = .ok (.ireturn, 1) := by decide +kernel
theorem dX4_copy_0 : decode cX4_copy 0 = .ok (.aload_n 0, 1) := by decide +kernel
theorem dX4_copy_1 : decode cX4_copy 1 = .ok (.iload_n 1, 1) := by decide +kernel
theorem dX4_copy_2 : decode cX4_copy 2 = .ok (.invokevirtual 221, 3) := by decide +kernel
theorem dX4_copy_5 : decode cX4_copy 5 = .ok (.astore 6, 2) := by decide +kernel
theorem dX4_copy_7 : decode cX4_copy 7 = .ok (.aload_n 0, 1) := by decide +kernel
theorem dX4_copy_8 : decode cX4_copy 8 = .ok (.iload_n 3, 1) := by decide +kernel
theorem dX4_copy_9 : decode cX4_copy 9 = .ok (.invokevirtual 221, 3) := by decide +kernel
theorem dX4_copy_12 : decode cX4_copy 12 = .ok (.astore 7, 2) := by decide +kernel
theorem dX4_copy_14 : decode cX4_copy 14 = .ok (.aload 6, 2) := by decide +kernel
theorem dX4_copy_16 : decode cX4_copy 16 = .ok (.ifnull 8, 3) := by decide +kernel
theorem dX4_copy_19 : decode cX4_copy 19 = .ok (.aload 7, 2) := by decide +kernel
theorem dX4_copy_21 : decode cX4_copy 21 = .ok (.ifnonnull 5, 3) := by decide +kernel
theorem dX4_copy_24 : decode cX4_copy 24 = .ok (.iconst (-1), 1) := by decide +kernel
theorem dX4_copy_25 : decode cX4_copy 25 = .ok (.ireturn, 1) := by decide +kernel
theorem dX4_copy_26 : decode cX4_copy 26 = .ok (.aload 6, 2) := by decide +kernel
theorem dX4_copy_28 : decode cX4_copy 28 = .ok (.getfield 247, 3) := by decide +kernel
theorem dX4_copy_31 : decode cX4_copy 31 = .ok (.iconst (-1), 1) := by decide +kernel
theorem dX4_copy_32 : decode cX4_copy 32 = .ok (.if_icmp .eq 12, 3) := by decide +kernel
theorem dX4_copy_35 : decode cX4_copy 35 = .ok (.aload 7, 2) := by decide +kernel
theorem dX4_copy_37 : decode cX4_copy 37 = .ok (.getfield 247, 3) := by decide +kernel
theorem dX4_copy_40 : decode cX4_copy 40 = .ok (.iconst (-1), 1) := by decide +kernel
theorem dX4_copy_41 : decode cX4_copy 41 = .ok (.if_icmp .ne 6, 3) := by decide +kernel
theorem dX4_copy_44 : decode cX4_copy 44 = .ok (.bipush (-11), 2) := by decide +kernel
theorem dX4_copy_46 : decode cX4_copy 46 = .ok (.ireturn, 1) := by decide +kernel
theorem dX4_copy_47 : decode cX4_copy 47 = .ok (.aload 6, 2) := by decide +kernel
theorem dX4_copy_49 : decode cX4_copy 49 = .ok (.getfield 247, 3) := by decide +kernel
theorem dX4_copy_52 : decode cX4_copy 52 = .ok (.aload 7, 2) := by decide +kernel
theorem dX4_copy_54 : decode cX4_copy 54 = .ok (.getfield 247, 3) := by decide +kernel
theorem dX4_copy_57 : decode cX4_copy 57 = .ok (.if_icmp .eq 6, 3) := by decide +kernel
theorem dX4_copy_60 : decode cX4_copy 60 = .ok (.bipush (-12), 2) := by decide +kernel
theorem dX4_copy_62 : decode cX4_copy 62 = .ok (.ireturn, 1) := by decide +kernel
theorem dX4_copy_63 : decode cX4_copy 63 = .ok (.aload 6, 2) := by decide +kernel
theorem dX4_copy_65 : decode cX4_copy 65 = .ok (.iload_n 2, 1) := by decide +kernel
theorem dX4_copy_66 : decode cX4_copy 66 = .ok (.iload 5, 2) := by decide +kernel
theorem dX4_copy_68 : decode cX4_copy 68 = .ok (.invokevirtual 254, 3) := by decide +kernel
theorem dX4_copy_71 : decode cX4_copy 71 = .ok (.ifCond .eq 15, 3) := by decide +kernel
theorem dX4_copy_74 : decode cX4_copy 74 = .ok (.aload 7, 2) := by decide +kernel
theorem dX4_copy_76 : decode cX4_copy 76 = .ok (.iload 4, 2) := by decide +kernel
theorem dX4_copy_78 : decode cX4_copy 78 = .ok (.iload 5, 2) := by decide +kernel
theorem dX4_copy_80 : decode cX4_copy 80 = .ok (.invokevirtual 254, 3) := by decide +kernel
theorem dX4_copy_83 : decode cX4_copy 83 = .ok (.ifCond .ne 6, 3) := by decide +kernel
theorem dX4_copy_86 : decode cX4_copy 86 = .ok (.bipush (-13), 2) := by decide +kernel
theorem dX4_copy_88 : decode cX4_copy 88 = .ok (.ireturn, 1) := by decide +kernel
theorem dX4_copy_89 : decode cX4_copy 89 = .ok (.aload 6, 2) := by decide +kernel
theorem dX4_copy_91 : decode cX4_copy 91 = .ok (.getfield 257, 3) := by decide +kernel
theorem dX4_copy_94 : decode cX4_copy 94 = .ok (.iload_n 2, 1) := by decide +kernel
theorem dX4_copy_95 : decode cX4_copy 95 = .ok (.aload 7, 2) := by decide +kernel
theorem dX4_copy_97 : decode cX4_copy 97 = .ok (.getfield 257, 3) := by decide +kernel
theorem dX4_copy_100 : decode cX4_copy 100 = .ok (.iload 4, 2) := by decide +kernel
theorem dX4_copy_102 : decode cX4_copy 102 = .ok (.iload 5, 2) := by decide +kernel
theorem dX4_copy_104 : decode cX4_copy 104 = .ok (.invokestatic 260, 3) := by decide +kernel
theorem dX4_copy_107 : decode cX4_copy 107 = .ok (.iload 5, 2) := by decide +kernel
theorem dX4_copy_109 : decode cX4_copy 109 = .ok (.ireturn, 1) := by decide +kernel
theorem dX4_within_0 : decode cX4_within 0 = .ok (.iload_n 0, 1) := by decide +kernel
theorem dX4_within_1 : decode cX4_within 1 = .ok (.iload_n 1, 1) := by decide +kernel
theorem dX4_within_2 : decode cX4_within 2 = .ok (.if_icmp .lt 12, 3) := by decide +kernel
theorem dX4_within_5 : decode cX4_within 5 = .ok (.iload_n 0, 1) := by decide +kernel
theorem dX4_within_6 : decode cX4_within 6 = .ok (.iload_n 2, 1) := by decide +kernel
theorem dX4_within_7 : decode cX4_within 7 = .ok (.if_icmp .gt 7, 3) := by decide +kernel
theorem dX4_within_10 : decode cX4_within 10 = .ok (.iconst 1, 1) := by decide +kernel
theorem dX4_within_11 : decode cX4_within 11 = .ok (.goto 4, 3) := by decide +kernel
theorem dX4_within_14 : decode cX4_within 14 = .ok (.iconst 0, 1) := by decide +kernel
theorem dX4_within_15 : decode cX4_within 15 = .ok (.ireturn, 1) := by decide +kernel
theorem dX4_at_0 : decode cX4_at 0 = .ok (.iload_n 1, 1) := by decide +kernel
theorem dX4_at_1 : decode cX4_at 1 = .ok (.ifCond .lt 15, 3) := by decide +kernel
theorem dX4_at_4 : decode cX4_at 4 = .ok (.iload_n 1, 1) := by decide +kernel
theorem dX4_at_5 : decode cX4_at 5 = .ok (.aload_n 0, 1) := by decide +kernel
theorem dX4_at_6 : decode cX4_at 6 = .ok (.arraylength, 1) := by decide +kernel
theorem dX4_at_7 : decode cX4_at 7 = .ok (.if_icmp .ge 9, 3) := by decide +kernel
theorem dX4_at_10 : decode cX4_at 10 = .ok (.aload_n 0, 1) := by decide +kernel
theorem dX4_at_11 : decode cX4_at 11 = .ok (.iload_n 1, 1) := by decide +kernel
theorem dX4_at_12 : decode cX4_at 12 = .ok (.iaload, 1) := by decide +kernel
theorem dX4_at_13 : decode cX4_at 13 = .ok (.goto 4, 3) := by decide +kernel
theorem dX4_at_16 : decode cX4_at 16 = .ok (.iconst 0, 1) := by decide +kernel
theorem dX4_at_17 : decode cX4_at 17 = .ok (.ireturn, 1) := by decide +kernel
theorem dX4_put_0 : decode cX4_put 0 = .ok (.iload_n 1, 1) := by decide +kernel
theorem dX4_put_1 : decode cX4_put 1 = .ok (.ifCond .lt 13, 3) := by decide +kernel
theorem dX4_put_4 : decode cX4_put 4 = .ok (.iload_n 1, 1) := by decide +kernel
theorem dX4_put_5 : decode cX4_put 5 = .ok (.aload_n 0, 1) := by decide +kernel
theorem dX4_put_6 : decode cX4_put 6 = .ok (.arraylength, 1) := by decide +kernel
theorem dX4_put_7 : decode cX4_put 7 = .ok (.if_icmp .ge 7, 3) := by decide +kernel
theorem dX4_put_10 : decode cX4_put 10 = .ok (.aload_n 0, 1) := by decide +kernel
theorem dX4_put_11 : decode cX4_put 11 = .ok (.iload_n 1, 1) := by decide +kernel
theorem dX4_put_12 : decode cX4_put 12 = .ok (.iload_n 2, 1) := by decide +kernel
theorem dX4_put_13 : decode cX4_put 13 = .ok (.iastore, 1) := by decide +kernel
theorem dX4_put_14 : decode cX4_put 14 = .ok (.return_, 1) := by decide +kernel
theorem dX4_exchange_0 : decode cX4_exchange 0 = .ok (.aload_n 0, 1) := by decide +kernel
theorem dX4_exchange_1 : decode cX4_exchange 1 = .ok (.iload_n 1, 1) := by decide +kernel
theorem dX4_exchange_2 : decode cX4_exchange 2 = .ok (.invokestatic 91, 3) := by decide +kernel
theorem dX4_exchange_5 : decode cX4_exchange 5 = .ok (.istore_n 3, 1) := by decide +kernel
theorem dX4_exchange_6 : decode cX4_exchange 6 = .ok (.aload_n 0, 1) := by decide +kernel
theorem dX4_exchange_7 : decode cX4_exchange 7 = .ok (.iload_n 1, 1) := by decide +kernel
theorem dX4_exchange_8 : decode cX4_exchange 8 = .ok (.iload_n 2, 1) := by decide +kernel
theorem dX4_exchange_9 : decode cX4_exchange 9 = .ok (.invokestatic 236, 3) := by decide +kernel
theorem dX4_exchange_12 : decode cX4_exchange 12 = .ok (.iload_n 3, 1) := by decide +kernel
theorem dX4_exchange_13 : decode cX4_exchange 13 = .ok (.ireturn, 1) := by decide +kernel
theorem dX4_copyAll_0 : decode cX4_copyAll 0 = .ok (.iconst 0, 1) := by decide +kernel
theorem dX4_copyAll_1 : decode cX4_copyAll 1 = .ok (.istore_n 2, 1) := by decide +kernel
theorem dX4_copyAll_2 : decode cX4_copyAll 2 = .ok (.iload_n 2, 1) := by decide +kernel
theorem dX4_copyAll_3 : decode cX4_copyAll 3 = .ok (.aload_n 0, 1) := by decide +kernel
theorem dX4_copyAll_4 : decode cX4_copyAll 4 = .ok (.arraylength, 1) := by decide +kernel
theorem dX4_copyAll_5 : decode cX4_copyAll 5 = .ok (.if_icmp .ge 21, 3) := by decide +kernel
theorem dX4_copyAll_8 : decode cX4_copyAll 8 = .ok (.iload_n 2, 1) := by decide +kernel
theorem dX4_copyAll_9 : decode cX4_copyAll 9 = .ok (.aload_n 1, 1) := by decide +kernel
theorem dX4_copyAll_10 : decode cX4_copyAll 10 = .ok (.arraylength, 1) := by decide +kernel
theorem dX4_copyAll_11 : decode cX4_copyAll 11 = .ok (.if_icmp .ge 15, 3) := by decide +kernel
theorem dX4_copyAll_14 : decode cX4_copyAll 14 = .ok (.aload_n 1, 1) := by decide +kernel
theorem dX4_copyAll_15 : decode cX4_copyAll 15 = .ok (.iload_n 2, 1) := by decide +kernel
theorem dX4_copyAll_16 : decode cX4_copyAll 16 = .ok (.aload_n 0, 1) := by decide +kernel
theorem dX4_copyAll_17 : decode cX4_copyAll 17 = .ok (.iload_n 2, 1) := by decide +kernel
theorem dX4_copyAll_18 : decode cX4_copyAll 18 = .ok (.iaload, 1) := by decide +kernel
theorem dX4_copyAll_19 : decode cX4_copyAll 19 = .ok (.iastore, 1) := by decide +kernel
theorem dX4_copyAll_20 : decode cX4_copyAll 20 = .ok (.iinc 2 1, 3) := by decide +kernel
theorem dX4_copyAll_23 : decode cX4_copyAll 23 = .ok (.goto (-21), 3) := by decide +kernel
theorem dX4_copyAll_26 : decode cX4_copyAll 26 = .ok (.return_, 1) := by decide +kernel
theorem dX4_byteOf_0 : decode cX4_byteOf 0 = .ok (.lload_n 0, 1) := by decide +kernel
theorem dX4_byteOf_1 : decode cX4_byteOf 1 = .ok (.bipush 8, 2) := by decide +kernel
theorem dX4_byteOf_3 : decode cX4_byteOf 3 = .ok (.iload_n 2, 1) := by decide +kernel
theorem dX4_byteOf_4 : decode cX4_byteOf 4 = .ok (.imul, 1) := by decide +kernel
theorem dX4_byteOf_5 : decode cX4_byteOf 5 = .ok (.lshr, 1) := by decide +kernel
theorem dX4_byteOf_6 : decode cX4_byteOf 6 = .ok (.l2i, 1) := by decide +kernel
theorem dX4_byteOf_7 : decode cX4_byteOf 7 = .ok (.sipush 255, 3) := by decide +kernel
theorem dX4_byteOf_10 : decode cX4_byteOf 10 = .ok (.iand, 1) := by decide +kernel
theorem dX4_byteOf_11 : decode cX4_byteOf 11 = .ok (.ireturn, 1) := by decide +kernel
theorem dX4_isLane_0 : decode cX4_isLane 0 = .ok (.iload_n 0, 1) := by decide +kernel
theorem dX4_isLane_1 : decode cX4_isLane 1 = .ok (.iconst 0, 1) := by decide +kernel
theorem dX4_isLane_2 : decode cX4_isLane 2 = .ok (.iconst 2, 1) := by decide +kernel
theorem dX4_isLane_3 : decode cX4_isLane 3 = .ok (.invokestatic 47, 3) := by decide +kernel
theorem dX4_isLane_6 : decode cX4_isLane 6 = .ok (.ireturn, 1) := by decide +kernel
theorem dX4_sheetAt_0 : decode cX4_sheetAt 0 = .ok (.iload_n 1, 1) := by decide +kernel
theorem dX4_sheetAt_1 : decode cX4_sheetAt 1 = .ok (.ifCond .lt 21, 3) := by decide +kernel
theorem dX4_sheetAt_4 : decode cX4_sheetAt 4 = .ok (.iload_n 1, 1) := by decide +kernel
theorem dX4_sheetAt_5 : decode cX4_sheetAt 5 = .ok (.aload_n 0, 1) := by decide +kernel
theorem dX4_sheetAt_6 : decode cX4_sheetAt 6 = .ok (.getfield 42, 3) := by decide +kernel
theorem dX4_sheetAt_9 : decode cX4_sheetAt 9 = .ok (.arraylength, 1) := by decide +kernel
theorem dX4_sheetAt_10 : decode cX4_sheetAt 10 = .ok (.if_icmp .ge 12, 3) := by decide +kernel
theorem dX4_sheetAt_13 : decode cX4_sheetAt 13 = .ok (.aload_n 0, 1) := by decide +kernel
theorem dX4_sheetAt_14 : decode cX4_sheetAt 14 = .ok (.getfield 42, 3) := by decide +kernel
theorem dX4_sheetAt_17 : decode cX4_sheetAt 17 = .ok (.iload_n 1, 1) := by decide +kernel
theorem dX4_sheetAt_18 : decode cX4_sheetAt 18 = .ok (.aaload, 1) := by decide +kernel
theorem dX4_sheetAt_19 : decode cX4_sheetAt 19 = .ok (.goto 4, 3) := by decide +kernel
theorem dX4_sheetAt_22 : decode cX4_sheetAt 22 = .ok (.aconst_null, 1) := by decide +kernel
theorem dX4_sheetAt_23 : decode cX4_sheetAt 23 = .ok (.areturn, 1) := by decide +kernel
theorem dX4_sameHeaps_0 : decode cX4_sameHeaps 0 = .ok (.iconst 0, 1) := by decide +kernel
theorem dX4_sameHeaps_1 : decode cX4_sameHeaps 1 = .ok (.istore_n 1, 1) := by decide +kernel
theorem dX4_sameHeaps_2 : decode cX4_sameHeaps 2 = .ok (.iload_n 1, 1) := by decide +kernel
theorem dX4_sameHeaps_3 : decode cX4_sameHeaps 3 = .ok (.aload_n 0, 1) := by decide +kernel
theorem dX4_sameHeaps_4 : decode cX4_sameHeaps 4 = .ok (.getfield 10, 3) := by decide +kernel
theorem dX4_sameHeaps_7 : decode cX4_sameHeaps 7 = .ok (.getfield 125, 3) := by decide +kernel
theorem dX4_sameHeaps_10 : decode cX4_sameHeaps 10 = .ok (.if_icmp .gt 36, 3) := by decide +kernel
theorem dX4_sameHeaps_13 : decode cX4_sameHeaps 13 = .ok (.aload_n 0, 1) := by decide +kernel
theorem dX4_sameHeaps_14 : decode cX4_sameHeaps 14 = .ok (.getfield 10, 3) := by decide +kernel
theorem dX4_sameHeaps_17 : decode cX4_sameHeaps 17 = .ok (.getfield 161, 3) := by decide +kernel
theorem dX4_sameHeaps_20 : decode cX4_sameHeaps 20 = .ok (.iload_n 1, 1) := by decide +kernel
theorem dX4_sameHeaps_21 : decode cX4_sameHeaps 21 = .ok (.invokestatic 91, 3) := by decide +kernel
theorem dX4_sameHeaps_24 : decode cX4_sameHeaps 24 = .ok (.aload_n 0, 1) := by decide +kernel
theorem dX4_sameHeaps_25 : decode cX4_sameHeaps 25 = .ok (.getfield 16, 3) := by decide +kernel
theorem dX4_sameHeaps_28 : decode cX4_sameHeaps 28 = .ok (.getfield 161, 3) := by decide +kernel
theorem dX4_sameHeaps_31 : decode cX4_sameHeaps 31 = .ok (.iload_n 1, 1) := by decide +kernel
theorem dX4_sameHeaps_32 : decode cX4_sameHeaps 32 = .ok (.invokestatic 91, 3) := by decide +kernel
theorem dX4_sameHeaps_35 : decode cX4_sameHeaps 35 = .ok (.if_icmp .eq 5, 3) := by decide +kernel
theorem dX4_sameHeaps_38 : decode cX4_sameHeaps 38 = .ok (.iconst 0, 1) := by decide +kernel
theorem dX4_sameHeaps_39 : decode cX4_sameHeaps 39 = .ok (.ireturn, 1) := by decide +kernel
theorem dX4_sameHeaps_40 : decode cX4_sameHeaps 40 = .ok (.iinc 1 1, 3) := by decide +kernel
theorem dX4_sameHeaps_43 : decode cX4_sameHeaps 43 = .ok (.goto (-41), 3) := by decide +kernel
theorem dX4_sameHeaps_46 : decode cX4_sameHeaps 46 = .ok (.iconst 1, 1) := by decide +kernel
theorem dX4_sameHeaps_47 : decode cX4_sameHeaps 47 = .ok (.ireturn, 1) := by decide +kernel
theorem dX4_bearsOut_0 : decode cX4_bearsOut 0 = .ok (.aload_n 0, 1) := by decide +kernel
theorem dX4_bearsOut_1 : decode cX4_bearsOut 1 = .ok (.invokevirtual 158, 3) := by decide +kernel
theorem dX4_bearsOut_4 : decode cX4_bearsOut 4 = .ok (.iconst 0, 1) := by decide +kernel
theorem dX4_bearsOut_5 : decode cX4_bearsOut 5 = .ok (.istore_n 3, 1) := by decide +kernel
theorem dX4_bearsOut_6 : decode cX4_bearsOut 6 = .ok (.iload_n 3, 1) := by decide +kernel
theorem dX4_bearsOut_7 : decode cX4_bearsOut 7 = .ok (.aload_n 0, 1) := by decide +kernel
theorem dX4_bearsOut_8 : decode cX4_bearsOut 8 = .ok (.getfield 51, 3) := by decide +kernel
theorem dX4_bearsOut_11 : decode cX4_bearsOut 11 = .ok (.if_icmp .ge 40, 3) := by decide +kernel
theorem dX4_bearsOut_14 : decode cX4_bearsOut 14 = .ok (.aload_n 0, 1) := by decide +kernel
theorem dX4_bearsOut_15 : decode cX4_bearsOut 15 = .ok (.iload_n 3, 1) := by decide +kernel
theorem dX4_bearsOut_16 : decode cX4_bearsOut 16 = .ok (.invokevirtual 167, 3) := by decide +kernel
theorem dX4_bearsOut_19 : decode cX4_bearsOut 19 = .ok (.istore 4, 2) := by decide +kernel
theorem dX4_bearsOut_21 : decode cX4_bearsOut 21 = .ok (.iload 4, 2) := by decide +kernel
theorem dX4_bearsOut_23 : decode cX4_bearsOut 23 = .ok (.bipush (-4), 2) := by decide +kernel
theorem dX4_bearsOut_25 : decode cX4_bearsOut 25 = .ok (.if_icmp .eq 20, 3) := by decide +kernel
theorem dX4_bearsOut_28 : decode cX4_bearsOut 28 = .ok (.iload 4, 2) := by decide +kernel
theorem dX4_bearsOut_30 : decode cX4_bearsOut 30 = .ok (.aload_n 1, 1) := by decide +kernel
theorem dX4_bearsOut_31 : decode cX4_bearsOut 31 = .ok (.getfield 257, 3) := by decide +kernel
theorem dX4_bearsOut_34 : decode cX4_bearsOut 34 = .ok (.iload_n 2, 1) := by decide +kernel
theorem dX4_bearsOut_35 : decode cX4_bearsOut 35 = .ok (.iload_n 3, 1) := by decide +kernel
theorem dX4_bearsOut_36 : decode cX4_bearsOut 36 = .ok (.iadd, 1) := by decide +kernel
theorem dX4_bearsOut_37 : decode cX4_bearsOut 37 = .ok (.invokestatic 91, 3) := by decide +kernel
theorem dX4_bearsOut_40 : decode cX4_bearsOut 40 = .ok (.if_icmp .eq 5, 3) := by decide +kernel
theorem dX4_bearsOut_43 : decode cX4_bearsOut 43 = .ok (.iconst 0, 1) := by decide +kernel
theorem dX4_bearsOut_44 : decode cX4_bearsOut 44 = .ok (.ireturn, 1) := by decide +kernel
theorem dX4_bearsOut_45 : decode cX4_bearsOut 45 = .ok (.iinc 3 1, 3) := by decide +kernel
theorem dX4_bearsOut_48 : decode cX4_bearsOut 48 = .ok (.goto (-42), 3) := by decide +kernel
theorem dX4_bearsOut_51 : decode cX4_bearsOut 51 = .ok (.iconst 1, 1) := by decide +kernel
theorem dX4_bearsOut_52 : decode cX4_bearsOut 52 = .ok (.ireturn, 1) := by decide +kernel
theorem dX4_seekBest_0 : decode cX4_seekBest 0 = .ok (.aload_n 0, 1) := by decide +kernel
theorem dX4_seekBest_1 : decode cX4_seekBest 1 = .ok (.getfield 29, 3) := by decide +kernel
theorem dX4_seekBest_4 : decode cX4_seekBest 4 = .ok (.iload_n 1, 1) := by decide +kernel
theorem dX4_seekBest_5 : decode cX4_seekBest 5 = .ok (.iconst 0, 1) := by decide +kernel
theorem dX4_seekBest_6 : decode cX4_seekBest 6 = .ok (.invokevirtual 204, 3) := by decide +kernel
theorem dX4_seekBest_9 : decode cX4_seekBest 9 = .ok (.aload_n 0, 1) := by decide +kernel
theorem dX4_seekBest_10 : decode cX4_seekBest 10 = .ok (.getfield 10, 3) := by decide +kernel
theorem dX4_seekBest_13 : decode cX4_seekBest 13 = .ok (.aload_n 0, 1) := by decide +kernel
theorem dX4_seekBest_14 : decode cX4_seekBest 14 = .ok (.getfield 29, 3) := by decide +kernel
theorem dX4_seekBest_17 : decode cX4_seekBest 17 = .ok (.iconst 0, 1) := by decide +kernel
theorem dX4_seekBest_18 : decode cX4_seekBest 18 = .ok (.aload_n 0, 1) := by decide +kernel
theorem dX4_seekBest_19 : decode cX4_seekBest 19 = .ok (.getfield 10, 3) := by decide +kernel
theorem dX4_seekBest_22 : decode cX4_seekBest 22 = .ok (.invokevirtual 148, 3) := by decide +kernel
theorem dX4_seekBest_25 : decode cX4_seekBest 25 = .ok (.iconst 0, 1) := by decide +kernel
theorem dX4_seekBest_26 : decode cX4_seekBest 26 = .ok (.invokestatic 266, 3) := by decide +kernel
theorem dX4_seekBest_29 : decode cX4_seekBest 29 = .ok (.return_, 1) := by decide +kernel
theorem dX4_tryBest_0 : decode cX4_tryBest 0 = .ok (.iload 4, 2) := by decide +kernel
theorem dX4_tryBest_2 : decode cX4_tryBest 2 = .ok (.aload_n 0, 1) := by decide +kernel
theorem dX4_tryBest_3 : decode cX4_tryBest 3 = .ok (.iload_n 3, 1) := by decide +kernel
theorem dX4_tryBest_4 : decode cX4_tryBest 4 = .ok (.invokevirtual 164, 3) := by decide +kernel
theorem dX4_tryBest_7 : decode cX4_tryBest 7 = .ok (.iadd, 1) := by decide +kernel
theorem dX4_tryBest_8 : decode cX4_tryBest 8 = .ok (.istore 5, 2) := by decide +kernel
theorem dX4_tryBest_10 : decode cX4_tryBest 10 = .ok (.aload_n 1, 1) := by decide +kernel
theorem dX4_tryBest_11 : decode cX4_tryBest 11 = .ok (.getfield 200, 3) := by decide +kernel
theorem dX4_tryBest_14 : decode cX4_tryBest 14 = .ok (.ifCond .lt 29, 3) := by decide +kernel
theorem dX4_tryBest_17 : decode cX4_tryBest 17 = .ok (.iload 5, 2) := by decide +kernel
theorem dX4_tryBest_19 : decode cX4_tryBest 19 = .ok (.aload_n 1, 1) := by decide +kernel
theorem dX4_tryBest_20 : decode cX4_tryBest 20 = .ok (.getfield 197, 3) := by decide +kernel
theorem dX4_tryBest_23 : decode cX4_tryBest 23 = .ok (.if_icmp .gt 20, 3) := by decide +kernel
theorem dX4_tryBest_26 : decode cX4_tryBest 26 = .ok (.iload 5, 2) := by decide +kernel
theorem dX4_tryBest_28 : decode cX4_tryBest 28 = .ok (.aload_n 1, 1) := by decide +kernel
theorem dX4_tryBest_29 : decode cX4_tryBest 29 = .ok (.getfield 197, 3) := by decide +kernel
theorem dX4_tryBest_32 : decode cX4_tryBest 32 = .ok (.if_icmp .ne 18, 3) := by decide +kernel
theorem dX4_tryBest_35 : decode cX4_tryBest 35 = .ok (.iload_n 2, 1) := by decide +kernel
theorem dX4_tryBest_36 : decode cX4_tryBest 36 = .ok (.aload_n 1, 1) := by decide +kernel
theorem dX4_tryBest_37 : decode cX4_tryBest 37 = .ok (.getfield 200, 3) := by decide +kernel
theorem dX4_tryBest_40 : decode cX4_tryBest 40 = .ok (.if_icmp .ge 10, 3) := by decide +kernel
theorem dX4_tryBest_43 : decode cX4_tryBest 43 = .ok (.aload_n 1, 1) := by decide +kernel
theorem dX4_tryBest_44 : decode cX4_tryBest 44 = .ok (.iload_n 2, 1) := by decide +kernel
theorem dX4_tryBest_45 : decode cX4_tryBest 45 = .ok (.iload 5, 2) := by decide +kernel
theorem dX4_tryBest_47 : decode cX4_tryBest 47 = .ok (.invokevirtual 270, 3) := by decide +kernel
theorem dX4_tryBest_50 : decode cX4_tryBest 50 = .ok (.iload_n 2, 1) := by decide +kernel
theorem dX4_tryBest_51 : decode cX4_tryBest 51 = .ok (.aload_n 1, 1) := by decide +kernel
theorem dX4_tryBest_52 : decode cX4_tryBest 52 = .ok (.getfield 273, 3) := by decide +kernel
theorem dX4_tryBest_55 : decode cX4_tryBest 55 = .ok (.if_icmp .ge 8, 3) := by decide +kernel
theorem dX4_tryBest_58 : decode cX4_tryBest 58 = .ok (.iload_n 2, 1) := by decide +kernel
theorem dX4_tryBest_59 : decode cX4_tryBest 59 = .ok (.iconst 4, 1) := by decide +kernel
theorem dX4_tryBest_60 : decode cX4_tryBest 60 = .ok (.if_icmp .lt 4, 3) := by decide +kernel
theorem dX4_tryBest_63 : decode cX4_tryBest 63 = .ok (.return_, 1) := by decide +kernel
theorem dX4_tryBest_64 : decode cX4_tryBest 64 = .ok (.iconst 0, 1) := by decide +kernel
theorem dX4_tryBest_65 : decode cX4_tryBest 65 = .ok (.istore 6, 2) := by decide +kernel
theorem dX4_tryBest_67 : decode cX4_tryBest 67 = .ok (.iload 6, 2) := by decide +kernel
theorem dX4_tryBest_69 : decode cX4_tryBest 69 = .ok (.aload_n 0, 1) := by decide +kernel
theorem dX4_tryBest_70 : decode cX4_tryBest 70 = .ok (.getfield 78, 3) := by decide +kernel
theorem dX4_tryBest_73 : decode cX4_tryBest 73 = .ok (.if_icmp .ge 60, 3) := by decide +kernel
theorem dX4_tryBest_76 : decode cX4_tryBest 76 = .ok (.aload_n 0, 1) := by decide +kernel
theorem dX4_tryBest_77 : decode cX4_tryBest 77 = .ok (.iload 6, 2) := by decide +kernel
theorem dX4_tryBest_79 : decode cX4_tryBest 79 = .ok (.iload_n 3, 1) := by decide +kernel
theorem dX4_tryBest_80 : decode cX4_tryBest 80 = .ok (.invokevirtual 181, 3) := by decide +kernel
theorem dX4_tryBest_83 : decode cX4_tryBest 83 = .ok (.istore 7, 2) := by decide +kernel
theorem dX4_tryBest_85 : decode cX4_tryBest 85 = .ok (.iload 7, 2) := by decide +kernel
theorem dX4_tryBest_87 : decode cX4_tryBest 87 = .ok (.iload_n 3, 1) := by decide +kernel
theorem dX4_tryBest_88 : decode cX4_tryBest 88 = .ok (.if_icmp .ne 6, 3) := by decide +kernel
theorem dX4_tryBest_91 : decode cX4_tryBest 91 = .ok (.goto 36, 3) := by decide +kernel
theorem dX4_tryBest_94 : decode cX4_tryBest 94 = .ok (.aload_n 1, 1) := by decide +kernel
theorem dX4_tryBest_95 : decode cX4_tryBest 95 = .ok (.getfield 276, 3) := by decide +kernel
theorem dX4_tryBest_98 : decode cX4_tryBest 98 = .ok (.iload_n 2, 1) := by decide +kernel
theorem dX4_tryBest_99 : decode cX4_tryBest 99 = .ok (.iload 6, 2) := by decide +kernel
theorem dX4_tryBest_101 : decode cX4_tryBest 101 = .ok (.invokestatic 236, 3) := by decide +kernel
theorem dX4_tryBest_104 : decode cX4_tryBest 104 = .ok (.aload_n 0, 1) := by decide +kernel
theorem dX4_tryBest_105 : decode cX4_tryBest 105 = .ok (.aload_n 1, 1) := by decide +kernel
theorem dX4_tryBest_106 : decode cX4_tryBest 106 = .ok (.iload_n 2, 1) := by decide +kernel
theorem dX4_tryBest_107 : decode cX4_tryBest 107 = .ok (.iconst 1, 1) := by decide +kernel
theorem dX4_tryBest_108 : decode cX4_tryBest 108 = .ok (.iadd, 1) := by decide +kernel
theorem dX4_tryBest_109 : decode cX4_tryBest 109 = .ok (.iload 7, 2) := by decide +kernel
theorem dX4_tryBest_111 : decode cX4_tryBest 111 = .ok (.iload 4, 2) := by decide +kernel
theorem dX4_tryBest_113 : decode cX4_tryBest 113 = .ok (.aload_n 0, 1) := by decide +kernel
theorem dX4_tryBest_114 : decode cX4_tryBest 114 = .ok (.iload_n 3, 1) := by decide +kernel
theorem dX4_tryBest_115 : decode cX4_tryBest 115 = .ok (.iload 7, 2) := by decide +kernel
theorem dX4_tryBest_117 : decode cX4_tryBest 117 = .ok (.iconst (-1), 1) := by decide +kernel
theorem dX4_tryBest_118 : decode cX4_tryBest 118 = .ok (.ixor, 1) := by decide +kernel
theorem dX4_tryBest_119 : decode cX4_tryBest 119 = .ok (.iand, 1) := by decide +kernel
theorem dX4_tryBest_120 : decode cX4_tryBest 120 = .ok (.invokevirtual 164, 3) := by decide +kernel
theorem dX4_tryBest_123 : decode cX4_tryBest 123 = .ok (.iadd, 1) := by decide +kernel
theorem dX4_tryBest_124 : decode cX4_tryBest 124 = .ok (.invokestatic 266, 3) := by decide +kernel
theorem dX4_tryBest_127 : decode cX4_tryBest 127 = .ok (.iinc 6 1, 3) := by decide +kernel
theorem dX4_tryBest_130 : decode cX4_tryBest 130 = .ok (.goto (-63), 3) := by decide +kernel
theorem dX4_tryBest_133 : decode cX4_tryBest 133 = .ok (.return_, 1) := by decide +kernel
theorem dX4_tryParted_0 : decode cX4_tryParted 0 = .ok (.aload_n 1, 1) := by decide +kernel
theorem dX4_tryParted_1 : decode cX4_tryParted 1 = .ok (.iload_n 3, 1) := by decide +kernel
theorem dX4_tryParted_2 : decode cX4_tryParted 2 = .ok (.invokevirtual 279, 3) := by decide +kernel
theorem dX4_tryParted_5 : decode cX4_tryParted 5 = .ok (.ifCond .ne 24, 3) := by decide +kernel
theorem dX4_tryParted_8 : decode cX4_tryParted 8 = .ok (.aload_n 1, 1) := by decide +kernel
theorem dX4_tryParted_9 : decode cX4_tryParted 9 = .ok (.getfield 200, 3) := by decide +kernel
theorem dX4_tryParted_12 : decode cX4_tryParted 12 = .ok (.ifCond .lt 11, 3) := by decide +kernel
theorem dX4_tryParted_15 : decode cX4_tryParted 15 = .ok (.iload_n 2, 1) := by decide +kernel
theorem dX4_tryParted_16 : decode cX4_tryParted 16 = .ok (.aload_n 1, 1) := by decide +kernel
theorem dX4_tryParted_17 : decode cX4_tryParted 17 = .ok (.getfield 200, 3) := by decide +kernel
theorem dX4_tryParted_20 : decode cX4_tryParted 20 = .ok (.if_icmp .ge 9, 3) := by decide +kernel
theorem dX4_tryParted_23 : decode cX4_tryParted 23 = .ok (.aload_n 1, 1) := by decide +kernel
theorem dX4_tryParted_24 : decode cX4_tryParted 24 = .ok (.iload_n 2, 1) := by decide +kernel
theorem dX4_tryParted_25 : decode cX4_tryParted 25 = .ok (.iconst 0, 1) := by decide +kernel
theorem dX4_tryParted_26 : decode cX4_tryParted 26 = .ok (.invokevirtual 270, 3) := by decide +kernel
theorem dX4_tryParted_29 : decode cX4_tryParted 29 = .ok (.iload_n 2, 1) := by decide +kernel
theorem dX4_tryParted_30 : decode cX4_tryParted 30 = .ok (.aload_n 1, 1) := by decide +kernel
theorem dX4_tryParted_31 : decode cX4_tryParted 31 = .ok (.getfield 273, 3) := by decide +kernel
theorem dX4_tryParted_34 : decode cX4_tryParted 34 = .ok (.if_icmp .ge 8, 3) := by decide +kernel
theorem dX4_tryParted_37 : decode cX4_tryParted 37 = .ok (.iload_n 2, 1) := by decide +kernel
theorem dX4_tryParted_38 : decode cX4_tryParted 38 = .ok (.iconst 4, 1) := by decide +kernel
theorem dX4_tryParted_39 : decode cX4_tryParted 39 = .ok (.if_icmp .lt 4, 3) := by decide +kernel
theorem dX4_tryParted_42 : decode cX4_tryParted 42 = .ok (.return_, 1) := by decide +kernel
theorem dX4_tryParted_43 : decode cX4_tryParted 43 = .ok (.iconst 0, 1) := by decide +kernel
theorem dX4_tryParted_44 : decode cX4_tryParted 44 = .ok (.istore 4, 2) := by decide +kernel
theorem dX4_tryParted_46 : decode cX4_tryParted 46 = .ok (.iload 4, 2) := by decide +kernel
theorem dX4_tryParted_48 : decode cX4_tryParted 48 = .ok (.aload_n 0, 1) := by decide +kernel
theorem dX4_tryParted_49 : decode cX4_tryParted 49 = .ok (.getfield 78, 3) := by decide +kernel
theorem dX4_tryParted_52 : decode cX4_tryParted 52 = .ok (.if_icmp .ge 60, 3) := by decide +kernel
theorem dX4_tryParted_55 : decode cX4_tryParted 55 = .ok (.aload_n 0, 1) := by decide +kernel
theorem dX4_tryParted_56 : decode cX4_tryParted 56 = .ok (.iload 4, 2) := by decide +kernel
theorem dX4_tryParted_58 : decode cX4_tryParted 58 = .ok (.iload_n 3, 1) := by decide +kernel
theorem dX4_tryParted_59 : decode cX4_tryParted 59 = .ok (.invokevirtual 181, 3) := by decide +kernel
theorem dX4_tryParted_62 : decode cX4_tryParted 62 = .ok (.istore 5, 2) := by decide +kernel
theorem dX4_tryParted_64 : decode cX4_tryParted 64 = .ok (.iload 5, 2) := by decide +kernel
theorem dX4_tryParted_66 : decode cX4_tryParted 66 = .ok (.iload_n 3, 1) := by decide +kernel
theorem dX4_tryParted_67 : decode cX4_tryParted 67 = .ok (.if_icmp .eq 39, 3) := by decide +kernel
theorem dX4_tryParted_70 : decode cX4_tryParted 70 = .ok (.aload_n 1, 1) := by decide +kernel
theorem dX4_tryParted_71 : decode cX4_tryParted 71 = .ok (.iload_n 3, 1) := by decide +kernel
theorem dX4_tryParted_72 : decode cX4_tryParted 72 = .ok (.iload 5, 2) := by decide +kernel
theorem dX4_tryParted_74 : decode cX4_tryParted 74 = .ok (.iconst (-1), 1) := by decide +kernel
theorem dX4_tryParted_75 : decode cX4_tryParted 75 = .ok (.ixor, 1) := by decide +kernel
theorem dX4_tryParted_76 : decode cX4_tryParted 76 = .ok (.iand, 1) := by decide +kernel
theorem dX4_tryParted_77 : decode cX4_tryParted 77 = .ok (.invokevirtual 279, 3) := by decide +kernel
theorem dX4_tryParted_80 : decode cX4_tryParted 80 = .ok (.ifCond .eq 6, 3) := by decide +kernel
theorem dX4_tryParted_83 : decode cX4_tryParted 83 = .ok (.goto 23, 3) := by decide +kernel
theorem dX4_tryParted_86 : decode cX4_tryParted 86 = .ok (.aload_n 1, 1) := by decide +kernel
theorem dX4_tryParted_87 : decode cX4_tryParted 87 = .ok (.getfield 276, 3) := by decide +kernel
theorem dX4_tryParted_90 : decode cX4_tryParted 90 = .ok (.iload_n 2, 1) := by decide +kernel
theorem dX4_tryParted_91 : decode cX4_tryParted 91 = .ok (.iload 4, 2) := by decide +kernel
theorem dX4_tryParted_93 : decode cX4_tryParted 93 = .ok (.invokestatic 236, 3) := by decide +kernel
theorem dX4_tryParted_96 : decode cX4_tryParted 96 = .ok (.aload_n 0, 1) := by decide +kernel
theorem dX4_tryParted_97 : decode cX4_tryParted 97 = .ok (.aload_n 1, 1) := by decide +kernel
theorem dX4_tryParted_98 : decode cX4_tryParted 98 = .ok (.iload_n 2, 1) := by decide +kernel
theorem dX4_tryParted_99 : decode cX4_tryParted 99 = .ok (.iconst 1, 1) := by decide +kernel
theorem dX4_tryParted_100 : decode cX4_tryParted 100 = .ok (.iadd, 1) := by decide +kernel
theorem dX4_tryParted_101 : decode cX4_tryParted 101 = .ok (.iload 5, 2) := by decide +kernel
theorem dX4_tryParted_103 : decode cX4_tryParted 103 = .ok (.invokestatic 208, 3) := by decide +kernel
theorem dX4_tryParted_106 : decode cX4_tryParted 106 = .ok (.iinc 4 1, 3) := by decide +kernel
theorem dX4_tryParted_109 : decode cX4_tryParted 109 = .ok (.goto (-63), 3) := by decide +kernel
theorem dX4_tryParted_112 : decode cX4_tryParted 112 = .ok (.return_, 1) := by decide +kernel
theorem dX5_init_0 : decode cX5_init 0 = .ok (.aload_n 0, 1) := by decide +kernel
theorem dX5_init_1 : decode cX5_init 1 = .ok (.invokespecial 1, 3) := by decide +kernel
theorem dX5_init_4 : decode cX5_init 4 = .ok (.aload_n 0, 1) := by decide +kernel
theorem dX5_init_5 : decode cX5_init 5 = .ok (.bipush 6, 2) := by decide +kernel
theorem dX5_init_7 : decode cX5_init 7 = .ok (.newarray .int, 2) := by decide +kernel
theorem dX5_init_9 : decode cX5_init 9 = .ok (.putfield 7, 3) := by decide +kernel
theorem dX5_init_12 : decode cX5_init 12 = .ok (.aload_n 0, 1) := by decide +kernel
theorem dX5_init_13 : decode cX5_init 13 = .ok (.bipush 6, 2) := by decide +kernel
theorem dX5_init_15 : decode cX5_init 15 = .ok (.newarray .int, 2) := by decide +kernel
theorem dX5_init_17 : decode cX5_init 17 = .ok (.putfield 13, 3) := by decide +kernel
theorem dX5_init_20 : decode cX5_init 20 = .ok (.aload_n 0, 1) := by decide +kernel
theorem dX5_init_21 : decode cX5_init 21 = .ok (.bipush 6, 2) := by decide +kernel
theorem dX5_init_23 : decode cX5_init 23 = .ok (.newarray .int, 2) := by decide +kernel
theorem dX5_init_25 : decode cX5_init 25 = .ok (.putfield 16, 3) := by decide +kernel
theorem dX5_init_28 : decode cX5_init 28 = .ok (.aload_n 0, 1) := by decide +kernel
theorem dX5_init_29 : decode cX5_init 29 = .ok (.bipush 32, 2) := by decide +kernel
theorem dX5_init_31 : decode cX5_init 31 = .ok (.newarray .int, 2) := by decide +kernel
theorem dX5_init_33 : decode cX5_init 33 = .ok (.putfield 19, 3) := by decide +kernel
theorem dX5_init_36 : decode cX5_init 36 = .ok (.aload_n 0, 1) := by decide +kernel
theorem dX5_init_37 : decode cX5_init 37 = .ok (.bipush 6, 2) := by decide +kernel
theorem dX5_init_39 : decode cX5_init 39 = .ok (.newarray .int, 2) := by decide +kernel
theorem dX5_init_41 : decode cX5_init 41 = .ok (.putfield 22, 3) := by decide +kernel
theorem dX5_init_44 : decode cX5_init 44 = .ok (.aload_n 0, 1) := by decide +kernel
theorem dX5_init_45 : decode cX5_init 45 = .ok (.bipush 120, 2) := by decide +kernel
theorem dX5_init_47 : decode cX5_init 47 = .ok (.newarray .int, 2) := by decide +kernel
theorem dX5_init_49 : decode cX5_init 49 = .ok (.putfield 25, 3) := by decide +kernel
theorem dX5_init_52 : decode cX5_init 52 = .ok (.aload_n 0, 1) := by decide +kernel
theorem dX5_init_53 : decode cX5_init 53 = .ok (.bipush 32, 2) := by decide +kernel
theorem dX5_init_55 : decode cX5_init 55 = .ok (.newarray .int, 2) := by decide +kernel
theorem dX5_init_57 : decode cX5_init 57 = .ok (.putfield 28, 3) := by decide +kernel
theorem dX5_init_60 : decode cX5_init 60 = .ok (.aload_n 0, 1) := by decide +kernel
theorem dX5_init_61 : decode cX5_init 61 = .ok (.bipush 6, 2) := by decide +kernel
theorem dX5_init_63 : decode cX5_init 63 = .ok (.newarray .int, 2) := by decide +kernel
theorem dX5_init_65 : decode cX5_init 65 = .ok (.putfield 31, 3) := by decide +kernel
theorem dX5_init_68 : decode cX5_init 68 = .ok (.aload_n 0, 1) := by decide +kernel
theorem dX5_init_69 : decode cX5_init 69 = .ok (.bipush 8, 2) := by decide +kernel
theorem dX5_init_71 : decode cX5_init 71 = .ok (.newarray .int, 2) := by decide +kernel
theorem dX5_init_73 : decode cX5_init 73 = .ok (.putfield 34, 3) := by decide +kernel
theorem dX5_init_76 : decode cX5_init 76 = .ok (.aload_n 0, 1) := by decide +kernel
theorem dX5_init_77 : decode cX5_init 77 = .ok (.bipush 8, 2) := by decide +kernel
theorem dX5_init_79 : decode cX5_init 79 = .ok (.newarray .int, 2) := by decide +kernel
theorem dX5_init_81 : decode cX5_init 81 = .ok (.putfield 37, 3) := by decide +kernel
theorem dX5_init_84 : decode cX5_init 84 = .ok (.aload_n 0, 1) := by decide +kernel
theorem dX5_init_85 : decode cX5_init 85 = .ok (.bipush 6, 2) := by decide +kernel
theorem dX5_init_87 : decode cX5_init 87 = .ok (.newarray .int, 2) := by decide +kernel
theorem dX5_init_89 : decode cX5_init 89 = .ok (.putfield 40, 3) := by decide +kernel
theorem dX5_init_92 : decode cX5_init 92 = .ok (.aload_n 0, 1) := by decide +kernel
theorem dX5_init_93 : decode cX5_init 93 = .ok (.bipush 6, 2) := by decide +kernel
theorem dX5_init_95 : decode cX5_init 95 = .ok (.newarray .int, 2) := by decide +kernel
theorem dX5_init_97 : decode cX5_init 97 = .ok (.putfield 43, 3) := by decide +kernel
theorem dX5_init_100 : decode cX5_init 100 = .ok (.aload_n 0, 1) := by decide +kernel
theorem dX5_init_101 : decode cX5_init 101 = .ok (.iconst 4, 1) := by decide +kernel
theorem dX5_init_102 : decode cX5_init 102 = .ok (.newarray .int, 2) := by decide +kernel
theorem dX5_init_104 : decode cX5_init 104 = .ok (.putfield 46, 3) := by decide +kernel
theorem dX5_init_107 : decode cX5_init 107 = .ok (.aload_n 0, 1) := by decide +kernel
theorem dX5_init_108 : decode cX5_init 108 = .ok (.bipush 60, 2) := by decide +kernel
theorem dX5_init_110 : decode cX5_init 110 = .ok (.newarray .int, 2) := by decide +kernel
theorem dX5_init_112 : decode cX5_init 112 = .ok (.putfield 49, 3) := by decide +kernel
theorem dX5_init_115 : decode cX5_init 115 = .ok (.aload_n 0, 1) := by decide +kernel
theorem dX5_init_116 : decode cX5_init 116 = .ok (.iconst 4, 1) := by decide +kernel
theorem dX5_init_117 : decode cX5_init 117 = .ok (.newarray .int, 2) := by decide +kernel
theorem dX5_init_119 : decode cX5_init 119 = .ok (.putfield 52, 3) := by decide +kernel
theorem dX5_init_122 : decode cX5_init 122 = .ok (.aload_n 0, 1) := by decide +kernel
theorem dX5_init_123 : decode cX5_init 123 = .ok (.iconst 4, 1) := by decide +kernel
theorem dX5_init_124 : decode cX5_init 124 = .ok (.newarray .int, 2) := by decide +kernel
theorem dX5_init_126 : decode cX5_init 126 = .ok (.putfield 55, 3) := by decide +kernel
theorem dX5_init_129 : decode cX5_init 129 = .ok (.aload_n 0, 1) := by decide +kernel
theorem dX5_init_130 : decode cX5_init 130 = .ok (.bipush 96, 2) := by decide +kernel
theorem dX5_init_132 : decode cX5_init 132 = .ok (.newarray .int, 2) := by decide +kernel
theorem dX5_init_134 : decode cX5_init 134 = .ok (.putfield 58, 3) := by decide +kernel
theorem dX5_init_137 : decode cX5_init 137 = .ok (.aload_n 0, 1) := by decide +kernel
theorem dX5_init_138 : decode cX5_init 138 = .ok (.bipush 24, 2) := by decide +kernel
theorem dX5_init_140 : decode cX5_init 140 = .ok (.newarray .int, 2) := by decide +kernel
theorem dX5_init_142 : decode cX5_init 142 = .ok (.putfield 61, 3) := by decide +kernel
theorem dX5_init_145 : decode cX5_init 145 = .ok (.iconst 0, 1) := by decide +kernel
theorem dX5_init_146 : decode cX5_init 146 = .ok (.istore_n 1, 1) := by decide +kernel
theorem dX5_init_147 : decode cX5_init 147 = .ok (.iload_n 1, 1) := by decide +kernel
theorem dX5_init_148 : decode cX5_init 148 = .ok (.iconst 4, 1) := by decide +kernel
theorem dX5_init_149 : decode cX5_init 149 = .ok (.if_icmp .ge 16, 3) := by decide +kernel
theorem dX5_init_152 : decode cX5_init 152 = .ok (.aload_n 0, 1) := by decide +kernel
theorem dX5_init_153 : decode cX5_init 153 = .ok (.getfield 52, 3) := by decide +kernel
theorem dX5_init_156 : decode cX5_init 156 = .ok (.iload_n 1, 1) := by decide +kernel
theorem dX5_init_157 : decode cX5_init 157 = .ok (.iconst (-1), 1) := by decide +kernel
theorem dX5_init_158 : decode cX5_init 158 = .ok (.iastore, 1) := by decide +kernel
theorem dX5_init_159 : decode cX5_init 159 = .ok (.iinc 1 1, 3) := by decide +kernel
theorem dX5_init_162 : decode cX5_init 162 = .ok (.goto (-15), 3) := by decide +kernel
theorem dX5_init_165 : decode cX5_init 165 = .ok (.return_, 1) := by decide +kernel
theorem dX5_in_0 : decode cX5_in 0 = .ok (.lload_n 0, 1) := by decide +kernel
theorem dX5_in_1 : decode cX5_in 1 = .ok (.lload_n 2, 1) := by decide +kernel
theorem dX5_in_2 : decode cX5_in 2 = .ok (.lcmp, 1) := by decide +kernel
theorem dX5_in_3 : decode cX5_in 3 = .ok (.ifCond .lt 14, 3) := by decide +kernel
theorem dX5_in_6 : decode cX5_in 6 = .ok (.lload_n 0, 1) := by decide +kernel
theorem dX5_in_7 : decode cX5_in 7 = .ok (.lload 4, 2) := by decide +kernel
theorem dX5_in_9 : decode cX5_in 9 = .ok (.lcmp, 1) := by decide +kernel
theorem dX5_in_10 : decode cX5_in 10 = .ok (.ifCond .gt 7, 3) := by decide +kernel
theorem dX5_in_13 : decode cX5_in 13 = .ok (.iconst 1, 1) := by decide +kernel
theorem dX5_in_14 : decode cX5_in 14 = .ok (.goto 4, 3) := by decide +kernel
theorem dX5_in_17 : decode cX5_in 17 = .ok (.iconst 0, 1) := by decide +kernel
theorem dX5_in_18 : decode cX5_in 18 = .ok (.ireturn, 1) := by decide +kernel
theorem dX5_has_0 : decode cX5_has 0 = .ok (.iload_n 0, 1) := by decide +kernel
theorem dX5_has_1 : decode cX5_has 1 = .ok (.iload_n 1, 1) := by decide +kernel
theorem dX5_has_2 : decode cX5_has 2 = .ok (.ishr, 1) := by decide +kernel
theorem dX5_has_3 : decode cX5_has 3 = .ok (.iconst 1, 1) := by decide +kernel
theorem dX5_has_4 : decode cX5_has 4 = .ok (.iand, 1) := by decide +kernel
theorem dX5_has_5 : decode cX5_has 5 = .ok (.iconst 1, 1) := by decide +kernel
theorem dX5_has_6 : decode cX5_has 6 = .ok (.if_icmp .ne 7, 3) := by decide +kernel
theorem dX5_has_9 : decode cX5_has 9 = .ok (.iconst 1, 1) := by decide +kernel
theorem dX5_has_10 : decode cX5_has 10 = .ok (.goto 4, 3) := by decide +kernel
theorem dX5_has_13 : decode cX5_has 13 = .ok (.iconst 0, 1) := by decide +kernel
theorem dX5_has_14 : decode cX5_has 14 = .ok (.ireturn, 1) := by decide +kernel
theorem dX5_isGrain_0 : decode cX5_isGrain 0 = .ok (.iload_n 1, 1) := by decide +kernel
theorem dX5_isGrain_1 : decode cX5_isGrain 1 = .ok (.i2l, 1) := by decide +kernel
theorem dX5_isGrain_2 : decode cX5_isGrain 2 = .ok (.lconst 0, 1) := by decide +kernel
theorem dX5_isGrain_3 : decode cX5_isGrain 3 = .ok (.aload_n 0, 1) := by decide +kernel
theorem dX5_isGrain_4 : decode cX5_isGrain 4 = .ok (.getfield 64, 3) := by decide +kernel
theorem dX5_isGrain_7 : decode cX5_isGrain 7 = .ok (.iconst 1, 1) := by decide +kernel
theorem dX5_isGrain_8 : decode cX5_isGrain 8 = .ok (.isub, 1) := by decide +kernel
theorem dX5_isGrain_9 : decode cX5_isGrain 9 = .ok (.i2l, 1) := by decide +kernel
theorem dX5_isGrain_10 : decode cX5_isGrain 10 = .ok (.invokestatic 68, 3) := by decide +kernel
theorem dX5_isGrain_13 : decode cX5_isGrain 13 = .ok (.ireturn, 1) := by decide +kernel
theorem dX5_isSieve_0 : decode cX5_isSieve 0 = .ok (.iload_n 1, 1) := by decide +kernel
theorem dX5_isSieve_1 : decode cX5_isSieve 1 = .ok (.i2l, 1) := by decide +kernel
theorem dX5_isSieve_2 : decode cX5_isSieve 2 = .ok (.lconst 0, 1) := by decide +kernel
theorem dX5_isSieve_3 : decode cX5_isSieve 3 = .ok (.aload_n 0, 1) := by decide +kernel
theorem dX5_isSieve_4 : decode cX5_isSieve 4 = .ok (.getfield 72, 3) := by decide +kernel
theorem dX5_isSieve_7 : decode cX5_isSieve 7 = .ok (.iconst 1, 1) := by decide +kernel
theorem dX5_isSieve_8 : decode cX5_isSieve 8 = .ok (.isub, 1) := by decide +kernel
theorem dX5_isSieve_9 : decode cX5_isSieve 9 = .ok (.i2l, 1) := by decide +kernel
theorem dX5_isSieve_10 : decode cX5_isSieve 10 = .ok (.invokestatic 68, 3) := by decide +kernel
theorem dX5_isSieve_13 : decode cX5_isSieve 13 = .ok (.ireturn, 1) := by decide +kernel
theorem dX5_addGrain_0 : decode cX5_addGrain 0 = .ok (.aload_n 0, 1) := by decide +kernel
theorem dX5_addGrain_1 : decode cX5_addGrain 1 = .ok (.getfield 7, 3) := by decide +kernel
theorem dX5_addGrain_4 : decode cX5_addGrain 4 = .ok (.aload_n 0, 1) := by decide +kernel
theorem dX5_addGrain_5 : decode cX5_addGrain 5 = .ok (.getfield 64, 3) := by decide +kernel
theorem dX5_addGrain_8 : decode cX5_addGrain 8 = .ok (.iload_n 1, 1) := by decide +kernel
theorem dX5_addGrain_9 : decode cX5_addGrain 9 = .ok (.iastore, 1) := by decide +kernel
theorem dX5_addGrain_10 : decode cX5_addGrain 10 = .ok (.aload_n 0, 1) := by decide +kernel
theorem dX5_addGrain_11 : decode cX5_addGrain 11 = .ok (.getfield 13, 3) := by decide +kernel
theorem dX5_addGrain_14 : decode cX5_addGrain 14 = .ok (.aload_n 0, 1) := by decide +kernel
theorem dX5_addGrain_15 : decode cX5_addGrain 15 = .ok (.getfield 64, 3) := by decide +kernel
theorem dX5_addGrain_18 : decode cX5_addGrain 18 = .ok (.iload_n 2, 1) := by decide +kernel
theorem dX5_addGrain_19 : decode cX5_addGrain 19 = .ok (.iastore, 1) := by decide +kernel
theorem dX5_addGrain_20 : decode cX5_addGrain 20 = .ok (.aload_n 0, 1) := by decide +kernel
theorem dX5_addGrain_21 : decode cX5_addGrain 21 = .ok (.getfield 16, 3) := by decide +kernel
theorem dX5_addGrain_24 : decode cX5_addGrain 24 = .ok (.aload_n 0, 1) := by decide +kernel
theorem dX5_addGrain_25 : decode cX5_addGrain 25 = .ok (.getfield 64, 3) := by decide +kernel
theorem dX5_addGrain_28 : decode cX5_addGrain 28 = .ok (.iload_n 3, 1) := by decide +kernel
theorem dX5_addGrain_29 : decode cX5_addGrain 29 = .ok (.iastore, 1) := by decide +kernel
theorem dX5_addGrain_30 : decode cX5_addGrain 30 = .ok (.aload_n 0, 1) := by decide +kernel
theorem dX5_addGrain_31 : decode cX5_addGrain 31 = .ok (.dup, 1) := by decide +kernel
theorem dX5_addGrain_32 : decode cX5_addGrain 32 = .ok (.getfield 64, 3) := by decide +kernel
theorem dX5_addGrain_35 : decode cX5_addGrain 35 = .ok (.iconst 1, 1) := by decide +kernel
theorem dX5_addGrain_36 : decode cX5_addGrain 36 = .ok (.iadd, 1) := by decide +kernel
theorem dX5_addGrain_37 : decode cX5_addGrain 37 = .ok (.putfield 64, 3) := by decide +kernel
theorem dX5_addGrain_40 : decode cX5_addGrain 40 = .ok (.return_, 1) := by decide +kernel
theorem dX5_grain_0 : decode cX5_grain 0 = .ok (.iload_n 1, 1) := by decide +kernel
theorem dX5_grain_1 : decode cX5_grain 1 = .ok (.i2l, 1) := by decide +kernel
theorem dX5_grain_2 : decode cX5_grain 2 = .ok (.lconst 1, 1) := by decide +kernel
theorem dX5_grain_3 : decode cX5_grain 3 = .ok (.ldc2_w 75, 3) := by decide +kernel
theorem dX5_grain_6 : decode cX5_grain 6 = .ok (.invokestatic 68, 3) := by decide +kernel
theorem dX5_grain_9 : decode cX5_grain 9 = .ok (.ifCond .eq 27, 3) := by decide +kernel
theorem dX5_grain_12 : decode cX5_grain 12 = .ok (.iload_n 2, 1) := by decide +kernel
theorem dX5_grain_13 : decode cX5_grain 13 = .ok (.i2l, 1) := by decide +kernel
theorem dX5_grain_14 : decode cX5_grain 14 = .ok (.lconst 0, 1) := by decide +kernel
theorem dX5_grain_15 : decode cX5_grain 15 = .ok (.ldc2_w 77, 3) := by decide +kernel
theorem dX5_grain_18 : decode cX5_grain 18 = .ok (.invokestatic 68, 3) := by decide +kernel
theorem dX5_grain_21 : decode cX5_grain 21 = .ok (.ifCond .eq 15, 3) := by decide +kernel
theorem dX5_grain_24 : decode cX5_grain 24 = .ok (.iload_n 3, 1) := by decide +kernel
theorem dX5_grain_25 : decode cX5_grain 25 = .ok (.i2l, 1) := by decide +kernel
theorem dX5_grain_26 : decode cX5_grain 26 = .ok (.lconst 0, 1) := by decide +kernel
theorem dX5_grain_27 : decode cX5_grain 27 = .ok (.ldc2_w 79, 3) := by decide +kernel
theorem dX5_grain_30 : decode cX5_grain 30 = .ok (.invokestatic 68, 3) := by decide +kernel
theorem dX5_grain_33 : decode cX5_grain 33 = .ok (.ifCond .ne 5, 3) := by decide +kernel
theorem dX5_grain_36 : decode cX5_grain 36 = .ok (.iconst (-1), 1) := by decide +kernel
theorem dX5_grain_37 : decode cX5_grain 37 = .ok (.ireturn, 1) := by decide +kernel
theorem dX5_grain_38 : decode cX5_grain 38 = .ok (.aload_n 0, 1) := by decide +kernel
theorem dX5_grain_39 : decode cX5_grain 39 = .ok (.getfield 64, 3) := by decide +kernel
theorem dX5_grain_42 : decode cX5_grain 42 = .ok (.bipush 6, 2) := by decide +kernel
theorem dX5_grain_44 : decode cX5_grain 44 = .ok (.if_icmp .ne 6, 3) := by decide +kernel
theorem dX5_grain_47 : decode cX5_grain 47 = .ok (.bipush (-3), 2) := by decide +kernel
theorem dX5_grain_49 : decode cX5_grain 49 = .ok (.ireturn, 1) := by decide +kernel
theorem dX5_grain_50 : decode cX5_grain 50 = .ok (.aload_n 0, 1) := by decide +kernel
theorem dX5_grain_51 : decode cX5_grain 51 = .ok (.iload_n 1, 1) := by decide +kernel
theorem dX5_grain_52 : decode cX5_grain 52 = .ok (.iload_n 2, 1) := by decide +kernel
theorem dX5_grain_53 : decode cX5_grain 53 = .ok (.iload_n 3, 1) := by decide +kernel
theorem dX5_grain_54 : decode cX5_grain 54 = .ok (.invokevirtual 81, 3) := by decide +kernel
theorem dX5_grain_57 : decode cX5_grain 57 = .ok (.aload_n 0, 1) := by decide +kernel
theorem dX5_grain_58 : decode cX5_grain 58 = .ok (.getfield 64, 3) := by decide +kernel
theorem dX5_grain_61 : decode cX5_grain 61 = .ok (.iconst 1, 1) := by decide +kernel
theorem dX5_grain_62 : decode cX5_grain 62 = .ok (.isub, 1) := by decide +kernel
theorem dX5_grain_63 : decode cX5_grain 63 = .ok (.ireturn, 1) := by decide +kernel
theorem dX5_set_0 : decode cX5_set 0 = .ok (.aload_n 0, 1) := by decide +kernel
theorem dX5_set_1 : decode cX5_set 1 = .ok (.iload_n 1, 1) := by decide +kernel
theorem dX5_set_2 : decode cX5_set 2 = .ok (.invokevirtual 85, 3) := by decide +kernel
theorem dX5_set_5 : decode cX5_set 5 = .ok (.ifCond .eq 57, 3) := by decide +kernel
theorem dX5_set_8 : decode cX5_set 8 = .ok (.iload_n 2, 1) := by decide +kernel
theorem dX5_set_9 : decode cX5_set 9 = .ok (.i2l, 1) := by decide +kernel
theorem dX5_set_10 : decode cX5_set 10 = .ok (.lconst 0, 1) := by decide +kernel
theorem dX5_set_11 : decode cX5_set 11 = .ok (.ldc2_w 89, 3) := by decide +kernel
theorem dX5_set_14 : decode cX5_set 14 = .ok (.invokestatic 68, 3) := by decide +kernel
theorem dX5_set_17 : decode cX5_set 17 = .ok (.ifCond .eq 45, 3) := by decide +kernel
theorem dX5_set_20 : decode cX5_set 20 = .ok (.iload_n 2, 1) := by decide +kernel
theorem dX5_set_21 : decode cX5_set 21 = .ok (.ifCond .ne 18, 3) := by decide +kernel
theorem dX5_set_24 : decode cX5_set 24 = .ok (.iload_n 3, 1) := by decide +kernel
theorem dX5_set_25 : decode cX5_set 25 = .ok (.i2l, 1) := by decide +kernel
theorem dX5_set_26 : decode cX5_set 26 = .ok (.lconst 1, 1) := by decide +kernel
theorem dX5_set_27 : decode cX5_set 27 = .ok (.ldc2_w 75, 3) := by decide +kernel
theorem dX5_set_30 : decode cX5_set 30 = .ok (.invokestatic 68, 3) := by decide +kernel
theorem dX5_set_33 : decode cX5_set 33 = .ok (.ifCond .eq 29, 3) := by decide +kernel
theorem dX5_set_36 : decode cX5_set 36 = .ok (.goto 28, 3) := by decide +kernel
theorem dX5_set_39 : decode cX5_set 39 = .ok (.iload_n 3, 1) := by decide +kernel
theorem dX5_set_40 : decode cX5_set 40 = .ok (.i2l, 1) := by decide +kernel
theorem dX5_set_41 : decode cX5_set 41 = .ok (.lconst 0, 1) := by decide +kernel
theorem dX5_set_42 : decode cX5_set 42 = .ok (.iload_n 2, 1) := by decide +kernel
theorem dX5_set_43 : decode cX5_set 43 = .ok (.iconst 1, 1) := by decide +kernel
theorem dX5_set_44 : decode cX5_set 44 = .ok (.if_icmp .ne 9, 3) := by decide +kernel
theorem dX5_set_47 : decode cX5_set 47 = .ok (.ldc2_w 77, 3) := by decide +kernel
theorem dX5_set_50 : decode cX5_set 50 = .ok (.goto 6, 3) := by decide +kernel
theorem dX5_set_53 : decode cX5_set 53 = .ok (.ldc2_w 79, 3) := by decide +kernel
theorem dX5_set_56 : decode cX5_set 56 = .ok (.invokestatic 68, 3) := by decide +kernel
theorem dX5_set_59 : decode cX5_set 59 = .ok (.ifCond .ne 5, 3) := by decide +kernel
theorem dX5_set_62 : decode cX5_set 62 = .ok (.iconst (-1), 1) := by decide +kernel
theorem dX5_set_63 : decode cX5_set 63 = .ok (.ireturn, 1) := by decide +kernel
theorem dX5_set_64 : decode cX5_set 64 = .ok (.iload_n 2, 1) := by decide +kernel
theorem dX5_set_65 : decode cX5_set 65 = .ok (.ifCond .ne 12, 3) := by decide +kernel
theorem dX5_set_68 : decode cX5_set 68 = .ok (.aload_n 0, 1) := by decide +kernel
theorem dX5_set_69 : decode cX5_set 69 = .ok (.getfield 7, 3) := by decide +kernel
theorem dX5_set_72 : decode cX5_set 72 = .ok (.iload_n 1, 1) := by decide +kernel
theorem dX5_set_73 : decode cX5_set 73 = .ok (.iaload, 1) := by decide +kernel
theorem dX5_set_74 : decode cX5_set 74 = .ok (.goto 23, 3) := by decide +kernel
theorem dX5_set_77 : decode cX5_set 77 = .ok (.iload_n 2, 1) := by decide +kernel
theorem dX5_set_78 : decode cX5_set 78 = .ok (.iconst 1, 1) := by decide +kernel
theorem dX5_set_79 : decode cX5_set 79 = .ok (.if_icmp .ne 12, 3) := by decide +kernel
theorem dX5_set_82 : decode cX5_set 82 = .ok (.aload_n 0, 1) := by decide +kernel
theorem dX5_set_83 : decode cX5_set 83 = .ok (.getfield 13, 3) := by decide +kernel
theorem dX5_set_86 : decode cX5_set 86 = .ok (.iload_n 1, 1) := by decide +kernel
theorem dX5_set_87 : decode cX5_set 87 = .ok (.iaload, 1) := by decide +kernel
theorem dX5_set_88 : decode cX5_set 88 = .ok (.goto 9, 3) := by decide +kernel
theorem dX5_set_91 : decode cX5_set 91 = .ok (.aload_n 0, 1) := by decide +kernel
theorem dX5_set_92 : decode cX5_set 92 = .ok (.getfield 16, 3) := by decide +kernel
theorem dX5_set_95 : decode cX5_set 95 = .ok (.iload_n 1, 1) := by decide +kernel
theorem dX5_set_96 : decode cX5_set 96 = .ok (.iaload, 1) := by decide +kernel
theorem dX5_set_97 : decode cX5_set 97 = .ok (.istore 4, 2) := by decide +kernel
theorem dX5_set_99 : decode cX5_set 99 = .ok (.aload_n 0, 1) := by decide +kernel
theorem dX5_set_100 : decode cX5_set 100 = .ok (.getfield 7, 3) := by decide +kernel
theorem dX5_set_103 : decode cX5_set 103 = .ok (.iload_n 1, 1) := by decide +kernel
theorem dX5_set_104 : decode cX5_set 104 = .ok (.iload_n 2, 1) := by decide +kernel
theorem dX5_set_105 : decode cX5_set 105 = .ok (.ifCond .ne 7, 3) := by decide +kernel
theorem dX5_set_108 : decode cX5_set 108 = .ok (.iload_n 3, 1) := by decide +kernel
theorem dX5_set_109 : decode cX5_set 109 = .ok (.goto 9, 3) := by decide +kernel
theorem dX5_set_112 : decode cX5_set 112 = .ok (.aload_n 0, 1) := by decide +kernel
theorem dX5_set_113 : decode cX5_set 113 = .ok (.getfield 7, 3) := by decide +kernel
theorem dX5_set_116 : decode cX5_set 116 = .ok (.iload_n 1, 1) := by decide +kernel
theorem dX5_set_117 : decode cX5_set 117 = .ok (.iaload, 1) := by decide +kernel
theorem dX5_set_118 : decode cX5_set 118 = .ok (.iastore, 1) := by decide +kernel
theorem dX5_set_119 : decode cX5_set 119 = .ok (.aload_n 0, 1) := by decide +kernel
theorem dX5_set_120 : decode cX5_set 120 = .ok (.getfield 13, 3) := by decide +kernel
theorem dX5_set_123 : decode cX5_set 123 = .ok (.iload_n 1, 1) := by decide +kernel
theorem dX5_set_124 : decode cX5_set 124 = .ok (.iload_n 2, 1) := by decide +kernel
theorem dX5_set_125 : decode cX5_set 125 = .ok (.iconst 1, 1) := by decide +kernel
theorem dX5_set_126 : decode cX5_set 126 = .ok (.if_icmp .ne 7, 3) := by decide +kernel
theorem dX5_set_129 : decode cX5_set 129 = .ok (.iload_n 3, 1) := by decide +kernel
theorem dX5_set_130 : decode cX5_set 130 = .ok (.goto 9, 3) := by decide +kernel
theorem dX5_set_133 : decode cX5_set 133 = .ok (.aload_n 0, 1) := by decide +kernel
theorem dX5_set_134 : decode cX5_set 134 = .ok (.getfield 13, 3) := by decide +kernel
theorem dX5_set_137 : decode cX5_set 137 = .ok (.iload_n 1, 1) := by decide +kernel
theorem dX5_set_138 : decode cX5_set 138 = .ok (.iaload, 1) := by decide +kernel
theorem dX5_set_139 : decode cX5_set 139 = .ok (.iastore, 1) := by decide +kernel
theorem dX5_set_140 : decode cX5_set 140 = .ok (.aload_n 0, 1) := by decide +kernel
theorem dX5_set_141 : decode cX5_set 141 = .ok (.getfield 16, 3) := by decide +kernel
theorem dX5_set_144 : decode cX5_set 144 = .ok (.iload_n 1, 1) := by decide +kernel
theorem dX5_set_145 : decode cX5_set 145 = .ok (.iload_n 2, 1) := by decide +kernel
theorem dX5_set_146 : decode cX5_set 146 = .ok (.iconst 2, 1) := by decide +kernel
theorem dX5_set_147 : decode cX5_set 147 = .ok (.if_icmp .ne 7, 3) := by decide +kernel
theorem dX5_set_150 : decode cX5_set 150 = .ok (.iload_n 3, 1) := by decide +kernel
theorem dX5_set_151 : decode cX5_set 151 = .ok (.goto 9, 3) := by decide +kernel
theorem dX5_set_154 : decode cX5_set 154 = .ok (.aload_n 0, 1) := by decide +kernel
theorem dX5_set_155 : decode cX5_set 155 = .ok (.getfield 16, 3) := by decide +kernel
theorem dX5_set_158 : decode cX5_set 158 = .ok (.iload_n 1, 1) := by decide +kernel
theorem dX5_set_159 : decode cX5_set 159 = .ok (.iaload, 1) := by decide +kernel
theorem dX5_set_160 : decode cX5_set 160 = .ok (.iastore, 1) := by decide +kernel
theorem dX5_set_161 : decode cX5_set 161 = .ok (.iload 4, 2) := by decide +kernel
theorem dX5_set_163 : decode cX5_set 163 = .ok (.ireturn, 1) := by decide +kernel
theorem dX5_addSieve_0 : decode cX5_addSieve 0 = .ok (.aload_n 0, 1) := by decide +kernel
theorem dX5_addSieve_1 : decode cX5_addSieve 1 = .ok (.getfield 19, 3) := by decide +kernel
theorem dX5_addSieve_4 : decode cX5_addSieve 4 = .ok (.iconst 4, 1) := by decide +kernel
theorem dX5_addSieve_5 : decode cX5_addSieve 5 = .ok (.aload_n 0, 1) := by decide +kernel
theorem dX5_addSieve_6 : decode cX5_addSieve 6 = .ok (.getfield 72, 3) := by decide +kernel
theorem dX5_addSieve_9 : decode cX5_addSieve 9 = .ok (.imul, 1) := by decide +kernel
theorem dX5_addSieve_10 : decode cX5_addSieve 10 = .ok (.iload_n 1, 1) := by decide +kernel
theorem dX5_addSieve_11 : decode cX5_addSieve 11 = .ok (.iastore, 1) := by decide +kernel
theorem dX5_addSieve_12 : decode cX5_addSieve 12 = .ok (.aload_n 0, 1) := by decide +kernel
theorem dX5_addSieve_13 : decode cX5_addSieve 13 = .ok (.getfield 19, 3) := by decide +kernel
theorem dX5_addSieve_16 : decode cX5_addSieve 16 = .ok (.iconst 4, 1) := by decide +kernel
theorem dX5_addSieve_17 : decode cX5_addSieve 17 = .ok (.aload_n 0, 1) := by decide +kernel
theorem dX5_addSieve_18 : decode cX5_addSieve 18 = .ok (.getfield 72, 3) := by decide +kernel
theorem dX5_addSieve_21 : decode cX5_addSieve 21 = .ok (.imul, 1) := by decide +kernel
theorem dX5_addSieve_22 : decode cX5_addSieve 22 = .ok (.iconst 1, 1) := by decide +kernel
theorem dX5_addSieve_23 : decode cX5_addSieve 23 = .ok (.iadd, 1) := by decide +kernel
theorem dX5_addSieve_24 : decode cX5_addSieve 24 = .ok (.iload_n 2, 1) := by decide +kernel
theorem dX5_addSieve_25 : decode cX5_addSieve 25 = .ok (.iastore, 1) := by decide +kernel
theorem dX5_addSieve_26 : decode cX5_addSieve 26 = .ok (.aload_n 0, 1) := by decide +kernel
theorem dX5_addSieve_27 : decode cX5_addSieve 27 = .ok (.getfield 19, 3) := by decide +kernel
theorem dX5_addSieve_30 : decode cX5_addSieve 30 = .ok (.iconst 4, 1) := by decide +kernel
theorem dX5_addSieve_31 : decode cX5_addSieve 31 = .ok (.aload_n 0, 1) := by decide +kernel
theorem dX5_addSieve_32 : decode cX5_addSieve 32 = .ok (.getfield 72, 3) := by decide +kernel
theorem dX5_addSieve_35 : decode cX5_addSieve 35 = .ok (.imul, 1) := by decide +kernel
theorem dX5_addSieve_36 : decode cX5_addSieve 36 = .ok (.iconst 2, 1) := by decide +kernel
theorem dX5_addSieve_37 : decode cX5_addSieve 37 = .ok (.iadd, 1) := by decide +kernel
theorem dX5_addSieve_38 : decode cX5_addSieve 38 = .ok (.iload_n 3, 1) := by decide +kernel
theorem dX5_addSieve_39 : decode cX5_addSieve 39 = .ok (.iastore, 1) := by decide +kernel
theorem dX5_addSieve_40 : decode cX5_addSieve 40 = .ok (.aload_n 0, 1) := by decide +kernel
theorem dX5_addSieve_41 : decode cX5_addSieve 41 = .ok (.getfield 19, 3) := by decide +kernel
theorem dX5_addSieve_44 : decode cX5_addSieve 44 = .ok (.iconst 4, 1) := by decide +kernel
theorem dX5_addSieve_45 : decode cX5_addSieve 45 = .ok (.aload_n 0, 1) := by decide +kernel
theorem dX5_addSieve_46 : decode cX5_addSieve 46 = .ok (.getfield 72, 3) := by decide +kernel
theorem dX5_addSieve_49 : decode cX5_addSieve 49 = .ok (.imul, 1) := by decide +kernel
theorem dX5_addSieve_50 : decode cX5_addSieve 50 = .ok (.iconst 3, 1) := by decide +kernel
theorem dX5_addSieve_51 : decode cX5_addSieve 51 = .ok (.iadd, 1) := by decide +kernel
theorem dX5_addSieve_52 : decode cX5_addSieve 52 = .ok (.iload 4, 2) := by decide +kernel
theorem dX5_addSieve_54 : decode cX5_addSieve 54 = .ok (.iastore, 1) := by decide +kernel
theorem dX5_addSieve_55 : decode cX5_addSieve 55 = .ok (.aload_n 0, 1) := by decide +kernel
theorem dX5_addSieve_56 : decode cX5_addSieve 56 = .ok (.dup, 1) := by decide +kernel
theorem dX5_addSieve_57 : decode cX5_addSieve 57 = .ok (.getfield 72, 3) := by decide +kernel
theorem dX5_addSieve_60 : decode cX5_addSieve 60 = .ok (.iconst 1, 1) := by decide +kernel
theorem dX5_addSieve_61 : decode cX5_addSieve 61 = .ok (.iadd, 1) := by decide +kernel
theorem dX5_addSieve_62 : decode cX5_addSieve 62 = .ok (.putfield 72, 3) := by decide +kernel
theorem dX5_addSieve_65 : decode cX5_addSieve 65 = .ok (.return_, 1) := by decide +kernel
theorem dX5_sieve_0 : decode cX5_sieve 0 = .ok (.iload_n 1, 1) := by decide +kernel
theorem dX5_sieve_1 : decode cX5_sieve 1 = .ok (.i2l, 1) := by decide +kernel
theorem dX5_sieve_2 : decode cX5_sieve 2 = .ok (.lconst 0, 1) := by decide +kernel
theorem dX5_sieve_3 : decode cX5_sieve 3 = .ok (.ldc2_w 91, 3) := by decide +kernel
theorem dX5_sieve_6 : decode cX5_sieve 6 = .ok (.invokestatic 68, 3) := by decide +kernel
theorem dX5_sieve_9 : decode cX5_sieve 9 = .ok (.ifCond .eq 40, 3) := by decide +kernel
theorem dX5_sieve_12 : decode cX5_sieve 12 = .ok (.iload_n 2, 1) := by decide +kernel
theorem dX5_sieve_13 : decode cX5_sieve 13 = .ok (.i2l, 1) := by decide +kernel
theorem dX5_sieve_14 : decode cX5_sieve 14 = .ok (.lconst 1, 1) := by decide +kernel
theorem dX5_sieve_15 : decode cX5_sieve 15 = .ok (.ldc2_w 75, 3) := by decide +kernel
theorem dX5_sieve_18 : decode cX5_sieve 18 = .ok (.invokestatic 68, 3) := by decide +kernel
theorem dX5_sieve_21 : decode cX5_sieve 21 = .ok (.ifCond .eq 28, 3) := by decide +kernel
theorem dX5_sieve_24 : decode cX5_sieve 24 = .ok (.iload_n 3, 1) := by decide +kernel
theorem dX5_sieve_25 : decode cX5_sieve 25 = .ok (.i2l, 1) := by decide +kernel
theorem dX5_sieve_26 : decode cX5_sieve 26 = .ok (.lconst 1, 1) := by decide +kernel
theorem dX5_sieve_27 : decode cX5_sieve 27 = .ok (.ldc2_w 93, 3) := by decide +kernel
theorem dX5_sieve_30 : decode cX5_sieve 30 = .ok (.invokestatic 68, 3) := by decide +kernel
theorem dX5_sieve_33 : decode cX5_sieve 33 = .ok (.ifCond .eq 16, 3) := by decide +kernel
theorem dX5_sieve_36 : decode cX5_sieve 36 = .ok (.iload 4, 2) := by decide +kernel
theorem dX5_sieve_38 : decode cX5_sieve 38 = .ok (.i2l, 1) := by decide +kernel
theorem dX5_sieve_39 : decode cX5_sieve 39 = .ok (.lconst 0, 1) := by decide +kernel
theorem dX5_sieve_40 : decode cX5_sieve 40 = .ok (.ldc2_w 91, 3) := by decide +kernel
theorem dX5_sieve_43 : decode cX5_sieve 43 = .ok (.invokestatic 68, 3) := by decide +kernel
theorem dX5_sieve_46 : decode cX5_sieve 46 = .ok (.ifCond .ne 5, 3) := by decide +kernel
theorem dX5_sieve_49 : decode cX5_sieve 49 = .ok (.iconst (-1), 1) := by decide +kernel
theorem dX5_sieve_50 : decode cX5_sieve 50 = .ok (.ireturn, 1) := by decide +kernel
theorem dX5_sieve_51 : decode cX5_sieve 51 = .ok (.aload_n 0, 1) := by decide +kernel
theorem dX5_sieve_52 : decode cX5_sieve 52 = .ok (.getfield 72, 3) := by decide +kernel
theorem dX5_sieve_55 : decode cX5_sieve 55 = .ok (.bipush 8, 2) := by decide +kernel
theorem dX5_sieve_57 : decode cX5_sieve 57 = .ok (.if_icmp .ne 6, 3) := by decide +kernel
theorem dX5_sieve_60 : decode cX5_sieve 60 = .ok (.bipush (-3), 2) := by decide +kernel
theorem dX5_sieve_62 : decode cX5_sieve 62 = .ok (.ireturn, 1) := by decide +kernel
theorem dX5_sieve_63 : decode cX5_sieve 63 = .ok (.aload_n 0, 1) := by decide +kernel
theorem dX5_sieve_64 : decode cX5_sieve 64 = .ok (.iload_n 1, 1) := by decide +kernel
theorem dX5_sieve_65 : decode cX5_sieve 65 = .ok (.iload_n 2, 1) := by decide +kernel
theorem dX5_sieve_66 : decode cX5_sieve 66 = .ok (.iload_n 3, 1) := by decide +kernel
theorem dX5_sieve_67 : decode cX5_sieve 67 = .ok (.iload 4, 2) := by decide +kernel
theorem dX5_sieve_69 : decode cX5_sieve 69 = .ok (.invokevirtual 95, 3) := by decide +kernel
theorem dX5_sieve_72 : decode cX5_sieve 72 = .ok (.aload_n 0, 1) := by decide +kernel
theorem dX5_sieve_73 : decode cX5_sieve 73 = .ok (.getfield 72, 3) := by decide +kernel
theorem dX5_sieve_76 : decode cX5_sieve 76 = .ok (.iconst 1, 1) := by decide +kernel
theorem dX5_sieve_77 : decode cX5_sieve 77 = .ok (.isub, 1) := by decide +kernel
theorem dX5_sieve_78 : decode cX5_sieve 78 = .ok (.ireturn, 1) := by decide +kernel
theorem dX5_told_0 : decode cX5_told 0 = .ok (.aload_n 0, 1) := by decide +kernel
theorem dX5_told_1 : decode cX5_told 1 = .ok (.iload_n 1, 1) := by decide +kernel
theorem dX5_told_2 : decode cX5_told 2 = .ok (.invokevirtual 99, 3) := by decide +kernel
theorem dX5_told_5 : decode cX5_told 5 = .ok (.ifCond .eq 28, 3) := by decide +kernel
theorem dX5_told_8 : decode cX5_told 8 = .ok (.iload_n 2, 1) := by decide +kernel
theorem dX5_told_9 : decode cX5_told 9 = .ok (.i2l, 1) := by decide +kernel
theorem dX5_told_10 : decode cX5_told 10 = .ok (.lconst 0, 1) := by decide +kernel
theorem dX5_told_11 : decode cX5_told 11 = .ok (.ldc2_w 91, 3) := by decide +kernel
theorem dX5_told_14 : decode cX5_told 14 = .ok (.invokestatic 68, 3) := by decide +kernel
theorem dX5_told_17 : decode cX5_told 17 = .ok (.ifCond .eq 16, 3) := by decide +kernel
theorem dX5_told_20 : decode cX5_told 20 = .ok (.aload_n 0, 1) := by decide +kernel
theorem dX5_told_21 : decode cX5_told 21 = .ok (.getfield 19, 3) := by decide +kernel
theorem dX5_told_24 : decode cX5_told 24 = .ok (.iconst 4, 1) := by decide +kernel
theorem dX5_told_25 : decode cX5_told 25 = .ok (.iload_n 1, 1) := by decide +kernel
theorem dX5_told_26 : decode cX5_told 26 = .ok (.imul, 1) := by decide +kernel
theorem dX5_told_27 : decode cX5_told 27 = .ok (.iload_n 2, 1) := by decide +kernel
theorem dX5_told_28 : decode cX5_told 28 = .ok (.iadd, 1) := by decide +kernel
theorem dX5_told_29 : decode cX5_told 29 = .ok (.iaload, 1) := by decide +kernel
theorem dX5_told_30 : decode cX5_told 30 = .ok (.goto 4, 3) := by decide +kernel
theorem dX5_told_33 : decode cX5_told 33 = .ok (.iconst (-1), 1) := by decide +kernel
theorem dX5_told_34 : decode cX5_told 34 = .ok (.ireturn, 1) := by decide +kernel
theorem dX5_mend_0 : decode cX5_mend 0 = .ok (.aload_n 0, 1) := by decide +kernel
theorem dX5_mend_1 : decode cX5_mend 1 = .ok (.iload_n 1, 1) := by decide +kernel
theorem dX5_mend_2 : decode cX5_mend 2 = .ok (.invokevirtual 99, 3) := by decide +kernel
theorem dX5_mend_5 : decode cX5_mend 5 = .ok (.ifCond .eq 15, 3) := by decide +kernel
theorem dX5_mend_8 : decode cX5_mend 8 = .ok (.iload_n 2, 1) := by decide +kernel
theorem dX5_mend_9 : decode cX5_mend 9 = .ok (.i2l, 1) := by decide +kernel
theorem dX5_mend_10 : decode cX5_mend 10 = .ok (.lconst 1, 1) := by decide +kernel
theorem dX5_mend_11 : decode cX5_mend 11 = .ok (.ldc2_w 75, 3) := by decide +kernel
theorem dX5_mend_14 : decode cX5_mend 14 = .ok (.invokestatic 68, 3) := by decide +kernel
theorem dX5_mend_17 : decode cX5_mend 17 = .ok (.ifCond .ne 5, 3) := by decide +kernel
theorem dX5_mend_20 : decode cX5_mend 20 = .ok (.iconst (-1), 1) := by decide +kernel
theorem dX5_mend_21 : decode cX5_mend 21 = .ok (.ireturn, 1) := by decide +kernel
theorem dX5_mend_22 : decode cX5_mend 22 = .ok (.aload_n 0, 1) := by decide +kernel
theorem dX5_mend_23 : decode cX5_mend 23 = .ok (.getfield 19, 3) := by decide +kernel
theorem dX5_mend_26 : decode cX5_mend 26 = .ok (.iconst 4, 1) := by decide +kernel
theorem dX5_mend_27 : decode cX5_mend 27 = .ok (.iload_n 1, 1) := by decide +kernel
theorem dX5_mend_28 : decode cX5_mend 28 = .ok (.imul, 1) := by decide +kernel
theorem dX5_mend_29 : decode cX5_mend 29 = .ok (.iaload, 1) := by decide +kernel
theorem dX5_mend_30 : decode cX5_mend 30 = .ok (.iconst 3, 1) := by decide +kernel
theorem dX5_mend_31 : decode cX5_mend 31 = .ok (.if_icmp .ne 6, 3) := by decide +kernel
theorem dX5_mend_34 : decode cX5_mend 34 = .ok (.bipush (-2), 2) := by decide +kernel
theorem dX5_mend_36 : decode cX5_mend 36 = .ok (.ireturn, 1) := by decide +kernel
theorem dX5_mend_37 : decode cX5_mend 37 = .ok (.aload_n 0, 1) := by decide +kernel
theorem dX5_mend_38 : decode cX5_mend 38 = .ok (.getfield 19, 3) := by decide +kernel
theorem dX5_mend_41 : decode cX5_mend 41 = .ok (.iconst 4, 1) := by decide +kernel
theorem dX5_mend_42 : decode cX5_mend 42 = .ok (.iload_n 1, 1) := by decide +kernel
theorem dX5_mend_43 : decode cX5_mend 43 = .ok (.imul, 1) := by decide +kernel
theorem dX5_mend_44 : decode cX5_mend 44 = .ok (.iconst 1, 1) := by decide +kernel
theorem dX5_mend_45 : decode cX5_mend 45 = .ok (.iadd, 1) := by decide +kernel
theorem dX5_mend_46 : decode cX5_mend 46 = .ok (.iaload, 1) := by decide +kernel
theorem dX5_mend_47 : decode cX5_mend 47 = .ok (.istore_n 3, 1) := by decide +kernel
theorem dX5_mend_48 : decode cX5_mend 48 = .ok (.aload_n 0, 1) := by decide +kernel
theorem dX5_mend_49 : decode cX5_mend 49 = .ok (.getfield 19, 3) := by decide +kernel
theorem dX5_mend_52 : decode cX5_mend 52 = .ok (.iconst 4, 1) := by decide +kernel
theorem dX5_mend_53 : decode cX5_mend 53 = .ok (.iload_n 1, 1) := by decide +kernel
theorem dX5_mend_54 : decode cX5_mend 54 = .ok (.imul, 1) := by decide +kernel
theorem dX5_mend_55 : decode cX5_mend 55 = .ok (.iconst 1, 1) := by decide +kernel
theorem dX5_mend_56 : decode cX5_mend 56 = .ok (.iadd, 1) := by decide +kernel
theorem dX5_mend_57 : decode cX5_mend 57 = .ok (.iload_n 2, 1) := by decide +kernel
theorem dX5_mend_58 : decode cX5_mend 58 = .ok (.iastore, 1) := by decide +kernel
theorem dX5_mend_59 : decode cX5_mend 59 = .ok (.iload_n 3, 1) := by decide +kernel
theorem dX5_mend_60 : decode cX5_mend 60 = .ok (.ireturn, 1) := by decide +kernel
theorem dX5_count_0 : decode cX5_count 0 = .ok (.iconst 0, 1) := by decide +kernel
theorem dX5_count_1 : decode cX5_count 1 = .ok (.istore_n 2, 1) := by decide +kernel
theorem dX5_count_2 : decode cX5_count 2 = .ok (.iconst 0, 1) := by decide +kernel
theorem dX5_count_3 : decode cX5_count 3 = .ok (.istore_n 3, 1) := by decide +kernel
theorem dX5_count_4 : decode cX5_count 4 = .ok (.iload_n 3, 1) := by decide +kernel
theorem dX5_count_5 : decode cX5_count 5 = .ok (.aload_n 0, 1) := by decide +kernel
theorem dX5_count_6 : decode cX5_count 6 = .ok (.getfield 64, 3) := by decide +kernel
theorem dX5_count_9 : decode cX5_count 9 = .ok (.if_icmp .ge 18, 3) := by decide +kernel
theorem dX5_count_12 : decode cX5_count 12 = .ok (.iload_n 2, 1) := by decide +kernel
theorem dX5_count_13 : decode cX5_count 13 = .ok (.aload_n 0, 1) := by decide +kernel
theorem dX5_count_14 : decode cX5_count 14 = .ok (.getfield 13, 3) := by decide +kernel
theorem dX5_count_17 : decode cX5_count 17 = .ok (.iload_n 3, 1) := by decide +kernel
theorem dX5_count_18 : decode cX5_count 18 = .ok (.iaload, 1) := by decide +kernel
theorem dX5_count_19 : decode cX5_count 19 = .ok (.iadd, 1) := by decide +kernel
theorem dX5_count_20 : decode cX5_count 20 = .ok (.istore_n 2, 1) := by decide +kernel
theorem dX5_count_21 : decode cX5_count 21 = .ok (.iinc 3 1, 3) := by decide +kernel
theorem dX5_count_24 : decode cX5_count 24 = .ok (.goto (-20), 3) := by decide +kernel
theorem dX5_count_27 : decode cX5_count 27 = .ok (.iload_n 1, 1) := by decide +kernel
theorem dX5_count_28 : decode cX5_count 28 = .ok (.tableswitch 58 0 4 #[36, 41, 46, 51, 56], 36) := by decide +kernel
theorem dX5_count_64 : decode cX5_count 64 = .ok (.aload_n 0, 1) := by decide +kernel
theorem dX5_count_65 : decode cX5_count 65 = .ok (.getfield 72, 3) := by decide +kernel
theorem dX5_count_68 : decode cX5_count 68 = .ok (.ireturn, 1) := by decide +kernel
theorem dX5_count_69 : decode cX5_count 69 = .ok (.aload_n 0, 1) := by decide +kernel
theorem dX5_count_70 : decode cX5_count 70 = .ok (.getfield 64, 3) := by decide +kernel
theorem dX5_count_73 : decode cX5_count 73 = .ok (.ireturn, 1) := by decide +kernel
theorem dX5_count_74 : decode cX5_count 74 = .ok (.aload_n 0, 1) := by decide +kernel
theorem dX5_count_75 : decode cX5_count 75 = .ok (.getfield 102, 3) := by decide +kernel
theorem dX5_count_78 : decode cX5_count 78 = .ok (.ireturn, 1) := by decide +kernel
theorem dX5_count_79 : decode cX5_count 79 = .ok (.aload_n 0, 1) := by decide +kernel
theorem dX5_count_80 : decode cX5_count 80 = .ok (.getfield 105, 3) := by decide +kernel
theorem dX5_count_83 : decode cX5_count 83 = .ok (.ireturn, 1) := by decide +kernel
theorem dX5_count_84 : decode cX5_count 84 = .ok (.iload_n 2, 1) := by decide +kernel
theorem dX5_count_85 : decode cX5_count 85 = .ok (.ireturn, 1) := by decide +kernel
theorem dX5_count_86 : decode cX5_count 86 = .ok (.iconst (-1), 1) := by decide +kernel
theorem dX5_count_87 : decode cX5_count 87 = .ok (.ireturn, 1) := by decide +kernel
theorem dX5_type_0 : decode cX5_type 0 = .ok (.iload_n 3, 1) := by decide +kernel
theorem dX5_type_1 : decode cX5_type 1 = .ok (.i2l, 1) := by decide +kernel
theorem dX5_type_2 : decode cX5_type 2 = .ok (.lconst 1, 1) := by decide +kernel
theorem dX5_type_3 : decode cX5_type 3 = .ok (.ldc2_w 108, 3) := by decide +kernel
theorem dX5_type_6 : decode cX5_type 6 = .ok (.invokestatic 68, 3) := by decide +kernel
theorem dX5_type_9 : decode cX5_type 9 = .ok (.ifCond .ne 5, 3) := by decide +kernel
theorem dX5_type_12 : decode cX5_type 12 = .ok (.iconst (-1), 1) := by decide +kernel
theorem dX5_type_13 : decode cX5_type 13 = .ok (.ireturn, 1) := by decide +kernel
theorem dX5_type_14 : decode cX5_type 14 = .ok (.iload_n 3, 1) := by decide +kernel
theorem dX5_type_15 : decode cX5_type 15 = .ok (.iconst 1, 1) := by decide +kernel
theorem dX5_type_16 : decode cX5_type 16 = .ok (.isub, 1) := by decide +kernel
theorem dX5_type_17 : decode cX5_type 17 = .ok (.istore 4, 2) := by decide +kernel
theorem dX5_type_19 : decode cX5_type 19 = .ok (.iload 4, 2) := by decide +kernel
theorem dX5_type_21 : decode cX5_type 21 = .ok (.ifCond .lt 34, 3) := by decide +kernel
theorem dX5_type_24 : decode cX5_type 24 = .ok (.lload_n 1, 1) := by decide +kernel
theorem dX5_type_25 : decode cX5_type 25 = .ok (.bipush 8, 2) := by decide +kernel
theorem dX5_type_27 : decode cX5_type 27 = .ok (.iload 4, 2) := by decide +kernel
theorem dX5_type_29 : decode cX5_type 29 = .ok (.imul, 1) := by decide +kernel
theorem dX5_type_30 : decode cX5_type 30 = .ok (.lshr, 1) := by decide +kernel
theorem dX5_type_31 : decode cX5_type 31 = .ok (.ldc2_w 110, 3) := by decide +kernel
theorem dX5_type_34 : decode cX5_type 34 = .ok (.land, 1) := by decide +kernel
theorem dX5_type_35 : decode cX5_type 35 = .ok (.ldc2_w 112, 3) := by decide +kernel
theorem dX5_type_38 : decode cX5_type 38 = .ok (.ldc2_w 114, 3) := by decide +kernel
theorem dX5_type_41 : decode cX5_type 41 = .ok (.invokestatic 68, 3) := by decide +kernel
theorem dX5_type_44 : decode cX5_type 44 = .ok (.ifCond .ne 5, 3) := by decide +kernel
theorem dX5_type_47 : decode cX5_type 47 = .ok (.iconst (-1), 1) := by decide +kernel
theorem dX5_type_48 : decode cX5_type 48 = .ok (.ireturn, 1) := by decide +kernel
theorem dX5_type_49 : decode cX5_type 49 = .ok (.iinc 4 (-1), 3) := by decide +kernel
theorem dX5_type_52 : decode cX5_type 52 = .ok (.goto (-33), 3) := by decide +kernel
theorem dX5_type_55 : decode cX5_type 55 = .ok (.aload_n 0, 1) := by decide +kernel
theorem dX5_type_56 : decode cX5_type 56 = .ok (.getfield 116, 3) := by decide +kernel
theorem dX5_type_59 : decode cX5_type 59 = .ok (.iload_n 3, 1) := by decide +kernel
theorem dX5_type_60 : decode cX5_type 60 = .ok (.iadd, 1) := by decide +kernel
theorem dX5_type_61 : decode cX5_type 61 = .ok (.bipush 120, 2) := by decide +kernel
theorem dX5_type_63 : decode cX5_type 63 = .ok (.if_icmp .le 6, 3) := by decide +kernel
theorem dX5_type_66 : decode cX5_type 66 = .ok (.bipush (-3), 2) := by decide +kernel
theorem dX5_type_68 : decode cX5_type 68 = .ok (.ireturn, 1) := by decide +kernel
theorem dX5_type_69 : decode cX5_type 69 = .ok (.iload_n 3, 1) := by decide +kernel
theorem dX5_type_70 : decode cX5_type 70 = .ok (.iconst 1, 1) := by decide +kernel
theorem dX5_type_71 : decode cX5_type 71 = .ok (.isub, 1) := by decide +kernel
theorem dX5_type_72 : decode cX5_type 72 = .ok (.istore 4, 2) := by decide +kernel
theorem dX5_type_74 : decode cX5_type 74 = .ok (.iload 4, 2) := by decide +kernel
theorem dX5_type_76 : decode cX5_type 76 = .ok (.ifCond .lt 40, 3) := by decide +kernel
theorem dX5_type_79 : decode cX5_type 79 = .ok (.aload_n 0, 1) := by decide +kernel
theorem dX5_type_80 : decode cX5_type 80 = .ok (.getfield 25, 3) := by decide +kernel
theorem dX5_type_83 : decode cX5_type 83 = .ok (.aload_n 0, 1) := by decide +kernel
theorem dX5_type_84 : decode cX5_type 84 = .ok (.getfield 116, 3) := by decide +kernel
theorem dX5_type_87 : decode cX5_type 87 = .ok (.lload_n 1, 1) := by decide +kernel
theorem dX5_type_88 : decode cX5_type 88 = .ok (.bipush 8, 2) := by decide +kernel
theorem dX5_type_90 : decode cX5_type 90 = .ok (.iload 4, 2) := by decide +kernel
theorem dX5_type_92 : decode cX5_type 92 = .ok (.imul, 1) := by decide +kernel
theorem dX5_type_93 : decode cX5_type 93 = .ok (.lshr, 1) := by decide +kernel
theorem dX5_type_94 : decode cX5_type 94 = .ok (.ldc2_w 110, 3) := by decide +kernel
theorem dX5_type_97 : decode cX5_type 97 = .ok (.land, 1) := by decide +kernel
theorem dX5_type_98 : decode cX5_type 98 = .ok (.l2i, 1) := by decide +kernel
theorem dX5_type_99 : decode cX5_type 99 = .ok (.iastore, 1) := by decide +kernel
theorem dX5_type_100 : decode cX5_type 100 = .ok (.aload_n 0, 1) := by decide +kernel
theorem dX5_type_101 : decode cX5_type 101 = .ok (.dup, 1) := by decide +kernel
theorem dX5_type_102 : decode cX5_type 102 = .ok (.getfield 116, 3) := by decide +kernel
theorem dX5_type_105 : decode cX5_type 105 = .ok (.iconst 1, 1) := by decide +kernel
theorem dX5_type_106 : decode cX5_type 106 = .ok (.iadd, 1) := by decide +kernel
theorem dX5_type_107 : decode cX5_type 107 = .ok (.putfield 116, 3) := by decide +kernel
theorem dX5_type_110 : decode cX5_type 110 = .ok (.iinc 4 (-1), 3) := by decide +kernel
theorem dX5_type_113 : decode cX5_type 113 = .ok (.goto (-39), 3) := by decide +kernel
theorem dX5_type_116 : decode cX5_type 116 = .ok (.aload_n 0, 1) := by decide +kernel
theorem dX5_type_117 : decode cX5_type 117 = .ok (.getfield 116, 3) := by decide +kernel
theorem dX5_type_120 : decode cX5_type 120 = .ok (.ireturn, 1) := by decide +kernel
theorem dX5_nextByte_0 : decode cX5_nextByte 0 = .ok (.aload_n 0, 1) := by decide +kernel
theorem dX5_nextByte_1 : decode cX5_nextByte 1 = .ok (.getfield 119, 3) := by decide +kernel
theorem dX5_nextByte_4 : decode cX5_nextByte 4 = .ok (.aload_n 0, 1) := by decide +kernel
theorem dX5_nextByte_5 : decode cX5_nextByte 5 = .ok (.getfield 116, 3) := by decide +kernel
theorem dX5_nextByte_8 : decode cX5_nextByte 8 = .ok (.if_icmp .ge 30, 3) := by decide +kernel
theorem dX5_nextByte_11 : decode cX5_nextByte 11 = .ok (.aload_n 0, 1) := by decide +kernel
theorem dX5_nextByte_12 : decode cX5_nextByte 12 = .ok (.getfield 25, 3) := by decide +kernel
theorem dX5_nextByte_15 : decode cX5_nextByte 15 = .ok (.aload_n 0, 1) := by decide +kernel
theorem dX5_nextByte_16 : decode cX5_nextByte 16 = .ok (.getfield 119, 3) := by decide +kernel
theorem dX5_nextByte_19 : decode cX5_nextByte 19 = .ok (.iaload, 1) := by decide +kernel
theorem dX5_nextByte_20 : decode cX5_nextByte 20 = .ok (.bipush 32, 2) := by decide +kernel
theorem dX5_nextByte_22 : decode cX5_nextByte 22 = .ok (.if_icmp .ne 16, 3) := by decide +kernel
theorem dX5_nextByte_25 : decode cX5_nextByte 25 = .ok (.aload_n 0, 1) := by decide +kernel
theorem dX5_nextByte_26 : decode cX5_nextByte 26 = .ok (.dup, 1) := by decide +kernel
theorem dX5_nextByte_27 : decode cX5_nextByte 27 = .ok (.getfield 119, 3) := by decide +kernel
theorem dX5_nextByte_30 : decode cX5_nextByte 30 = .ok (.iconst 1, 1) := by decide +kernel
theorem dX5_nextByte_31 : decode cX5_nextByte 31 = .ok (.iadd, 1) := by decide +kernel
theorem dX5_nextByte_32 : decode cX5_nextByte 32 = .ok (.putfield 119, 3) := by decide +kernel
theorem dX5_nextByte_35 : decode cX5_nextByte 35 = .ok (.goto (-35), 3) := by decide +kernel
theorem dX5_nextByte_38 : decode cX5_nextByte 38 = .ok (.aload_n 0, 1) := by decide +kernel
theorem dX5_nextByte_39 : decode cX5_nextByte 39 = .ok (.getfield 119, 3) := by decide +kernel
theorem dX5_nextByte_42 : decode cX5_nextByte 42 = .ok (.aload_n 0, 1) := by decide +kernel
theorem dX5_nextByte_43 : decode cX5_nextByte 43 = .ok (.getfield 116, 3) := by decide +kernel
theorem dX5_nextByte_46 : decode cX5_nextByte 46 = .ok (.if_icmp .ge 15, 3) := by decide +kernel
theorem dX5_nextByte_49 : decode cX5_nextByte 49 = .ok (.aload_n 0, 1) := by decide +kernel
theorem dX5_nextByte_50 : decode cX5_nextByte 50 = .ok (.getfield 25, 3) := by decide +kernel
theorem dX5_nextByte_53 : decode cX5_nextByte 53 = .ok (.aload_n 0, 1) := by decide +kernel
theorem dX5_nextByte_54 : decode cX5_nextByte 54 = .ok (.getfield 119, 3) := by decide +kernel
theorem dX5_nextByte_57 : decode cX5_nextByte 57 = .ok (.iaload, 1) := by decide +kernel
theorem dX5_nextByte_58 : decode cX5_nextByte 58 = .ok (.goto 4, 3) := by decide +kernel
theorem dX5_nextByte_61 : decode cX5_nextByte 61 = .ok (.iconst (-1), 1) := by decide +kernel
theorem dX5_nextByte_62 : decode cX5_nextByte 62 = .ok (.ireturn, 1) := by decide +kernel
theorem dX5_takes_0 : decode cX5_takes 0 = .ok (.aload_n 0, 1) := by decide +kernel
theorem dX5_takes_1 : decode cX5_takes 1 = .ok (.invokevirtual 122, 3) := by decide +kernel
theorem dX5_takes_4 : decode cX5_takes 4 = .ok (.iload_n 1, 1) := by decide +kernel
theorem dX5_takes_5 : decode cX5_takes 5 = .ok (.if_icmp .ne 7, 3) := by decide +kernel
theorem dX5_takes_8 : decode cX5_takes 8 = .ok (.iconst 1, 1) := by decide +kernel
theorem dX5_takes_9 : decode cX5_takes 9 = .ok (.goto 4, 3) := by decide +kernel
theorem dX5_takes_12 : decode cX5_takes 12 = .ok (.iconst 0, 1) := by decide +kernel
theorem dX5_takes_13 : decode cX5_takes 13 = .ok (.istore_n 2, 1) := by decide +kernel
theorem dX5_takes_14 : decode cX5_takes 14 = .ok (.aload_n 0, 1) := by decide +kernel
theorem dX5_takes_15 : decode cX5_takes 15 = .ok (.dup, 1) := by decide +kernel
theorem dX5_takes_16 : decode cX5_takes 16 = .ok (.getfield 119, 3) := by decide +kernel
theorem dX5_takes_19 : decode cX5_takes 19 = .ok (.iload_n 2, 1) := by decide +kernel
theorem dX5_takes_20 : decode cX5_takes 20 = .ok (.ifCond .eq 7, 3) := by decide +kernel
theorem dX5_takes_23 : decode cX5_takes 23 = .ok (.iconst 1, 1) := by decide +kernel
theorem dX5_takes_24 : decode cX5_takes 24 = .ok (.goto 4, 3) := by decide +kernel
theorem dX5_takes_27 : decode cX5_takes 27 = .ok (.iconst 0, 1) := by decide +kernel
theorem dX5_takes_28 : decode cX5_takes 28 = .ok (.iadd, 1) := by decide +kernel
theorem dX5_takes_29 : decode cX5_takes 29 = .ok (.putfield 119, 3) := by decide +kernel
theorem dX5_takes_32 : decode cX5_takes 32 = .ok (.iload_n 2, 1) := by decide +kernel
theorem dX5_takes_33 : decode cX5_takes 33 = .ok (.ireturn, 1) := by decide +kernel
theorem dX5_readNumber_0 : decode cX5_readNumber 0 = .ok (.aload_n 0, 1) := by decide +kernel
theorem dX5_readNumber_1 : decode cX5_readNumber 1 = .ok (.invokevirtual 122, 3) := by decide +kernel
theorem dX5_readNumber_4 : decode cX5_readNumber 4 = .ok (.pop, 1) := by decide +kernel
theorem dX5_readNumber_5 : decode cX5_readNumber 5 = .ok (.aload_n 0, 1) := by decide +kernel
theorem dX5_readNumber_6 : decode cX5_readNumber 6 = .ok (.getfield 119, 3) := by decide +kernel
theorem dX5_readNumber_9 : decode cX5_readNumber 9 = .ok (.istore_n 3, 1) := by decide +kernel
theorem dX5_readNumber_10 : decode cX5_readNumber 10 = .ok (.iconst 0, 1) := by decide +kernel
theorem dX5_readNumber_11 : decode cX5_readNumber 11 = .ok (.istore 4, 2) := by decide +kernel
theorem dX5_readNumber_13 : decode cX5_readNumber 13 = .ok (.aload_n 0, 1) := by decide +kernel
theorem dX5_readNumber_14 : decode cX5_readNumber 14 = .ok (.getfield 119, 3) := by decide +kernel
theorem dX5_readNumber_17 : decode cX5_readNumber 17 = .ok (.aload_n 0, 1) := by decide +kernel
theorem dX5_readNumber_18 : decode cX5_readNumber 18 = .ok (.getfield 116, 3) := by decide +kernel
theorem dX5_readNumber_21 : decode cX5_readNumber 21 = .ok (.if_icmp .ge 70, 3) := by decide +kernel
theorem dX5_readNumber_24 : decode cX5_readNumber 24 = .ok (.aload_n 0, 1) := by decide +kernel
theorem dX5_readNumber_25 : decode cX5_readNumber 25 = .ok (.getfield 25, 3) := by decide +kernel
theorem dX5_readNumber_28 : decode cX5_readNumber 28 = .ok (.aload_n 0, 1) := by decide +kernel
theorem dX5_readNumber_29 : decode cX5_readNumber 29 = .ok (.getfield 119, 3) := by decide +kernel
theorem dX5_readNumber_32 : decode cX5_readNumber 32 = .ok (.iaload, 1) := by decide +kernel
theorem dX5_readNumber_33 : decode cX5_readNumber 33 = .ok (.i2l, 1) := by decide +kernel
theorem dX5_readNumber_34 : decode cX5_readNumber 34 = .ok (.ldc2_w 126, 3) := by decide +kernel
theorem dX5_readNumber_37 : decode cX5_readNumber 37 = .ok (.ldc2_w 128, 3) := by decide +kernel
theorem dX5_readNumber_40 : decode cX5_readNumber 40 = .ok (.invokestatic 68, 3) := by decide +kernel
theorem dX5_readNumber_43 : decode cX5_readNumber 43 = .ok (.ifCond .eq 48, 3) := by decide +kernel
theorem dX5_readNumber_46 : decode cX5_readNumber 46 = .ok (.iload 4, 2) := by decide +kernel
theorem dX5_readNumber_48 : decode cX5_readNumber 48 = .ok (.ldc 130, 2) := by decide +kernel
theorem dX5_readNumber_50 : decode cX5_readNumber 50 = .ok (.if_icmp .le 8, 3) := by decide +kernel
theorem dX5_readNumber_53 : decode cX5_readNumber 53 = .ok (.iload 4, 2) := by decide +kernel
theorem dX5_readNumber_55 : decode cX5_readNumber 55 = .ok (.goto 21, 3) := by decide +kernel
theorem dX5_readNumber_58 : decode cX5_readNumber 58 = .ok (.bipush 10, 2) := by decide +kernel
theorem dX5_readNumber_60 : decode cX5_readNumber 60 = .ok (.iload 4, 2) := by decide +kernel
theorem dX5_readNumber_62 : decode cX5_readNumber 62 = .ok (.imul, 1) := by decide +kernel
theorem dX5_readNumber_63 : decode cX5_readNumber 63 = .ok (.aload_n 0, 1) := by decide +kernel
theorem dX5_readNumber_64 : decode cX5_readNumber 64 = .ok (.getfield 25, 3) := by decide +kernel
theorem dX5_readNumber_67 : decode cX5_readNumber 67 = .ok (.aload_n 0, 1) := by decide +kernel
theorem dX5_readNumber_68 : decode cX5_readNumber 68 = .ok (.getfield 119, 3) := by decide +kernel
theorem dX5_readNumber_71 : decode cX5_readNumber 71 = .ok (.iaload, 1) := by decide +kernel
theorem dX5_readNumber_72 : decode cX5_readNumber 72 = .ok (.iadd, 1) := by decide +kernel
theorem dX5_readNumber_73 : decode cX5_readNumber 73 = .ok (.bipush 48, 2) := by decide +kernel
theorem dX5_readNumber_75 : decode cX5_readNumber 75 = .ok (.isub, 1) := by decide +kernel
theorem dX5_readNumber_76 : decode cX5_readNumber 76 = .ok (.istore 4, 2) := by decide +kernel
theorem dX5_readNumber_78 : decode cX5_readNumber 78 = .ok (.aload_n 0, 1) := by decide +kernel
theorem dX5_readNumber_79 : decode cX5_readNumber 79 = .ok (.dup, 1) := by decide +kernel
theorem dX5_readNumber_80 : decode cX5_readNumber 80 = .ok (.getfield 119, 3) := by decide +kernel
theorem dX5_readNumber_83 : decode cX5_readNumber 83 = .ok (.iconst 1, 1) := by decide +kernel
theorem dX5_readNumber_84 : decode cX5_readNumber 84 = .ok (.iadd, 1) := by decide +kernel
theorem dX5_readNumber_85 : decode cX5_readNumber 85 = .ok (.putfield 119, 3) := by decide +kernel
theorem dX5_readNumber_88 : decode cX5_readNumber 88 = .ok (.goto (-75), 3) := by decide +kernel
theorem dX5_readNumber_91 : decode cX5_readNumber 91 = .ok (.aload_n 0, 1) := by decide +kernel
theorem dX5_readNumber_92 : decode cX5_readNumber 92 = .ok (.getfield 119, 3) := by decide +kernel
theorem dX5_readNumber_95 : decode cX5_readNumber 95 = .ok (.iload_n 3, 1) := by decide +kernel
theorem dX5_readNumber_96 : decode cX5_readNumber 96 = .ok (.if_icmp .ne 5, 3) := by decide +kernel
theorem dX5_readNumber_99 : decode cX5_readNumber 99 = .ok (.iconst (-1), 1) := by decide +kernel
theorem dX5_readNumber_100 : decode cX5_readNumber 100 = .ok (.ireturn, 1) := by decide +kernel
theorem dX5_readNumber_101 : decode cX5_readNumber 101 = .ok (.iload 4, 2) := by decide +kernel
theorem dX5_readNumber_103 : decode cX5_readNumber 103 = .ok (.i2l, 1) := by decide +kernel
theorem dX5_readNumber_104 : decode cX5_readNumber 104 = .ok (.iload_n 1, 1) := by decide +kernel
theorem dX5_readNumber_105 : decode cX5_readNumber 105 = .ok (.i2l, 1) := by decide +kernel
theorem dX5_readNumber_106 : decode cX5_readNumber 106 = .ok (.iload_n 2, 1) := by decide +kernel
theorem dX5_readNumber_107 : decode cX5_readNumber 107 = .ok (.i2l, 1) := by decide +kernel
theorem dX5_readNumber_108 : decode cX5_readNumber 108 = .ok (.invokestatic 68, 3) := by decide +kernel
theorem dX5_readNumber_111 : decode cX5_readNumber 111 = .ok (.ifCond .ne 10, 3) := by decide +kernel
theorem dX5_readNumber_114 : decode cX5_readNumber 114 = .ok (.aload_n 0, 1) := by decide +kernel
theorem dX5_readNumber_115 : decode cX5_readNumber 115 = .ok (.iload_n 3, 1) := by decide +kernel
theorem dX5_readNumber_116 : decode cX5_readNumber 116 = .ok (.putfield 119, 3) := by decide +kernel
theorem dX5_readNumber_119 : decode cX5_readNumber 119 = .ok (.iconst (-1), 1) := by decide +kernel
theorem dX5_readNumber_120 : decode cX5_readNumber 120 = .ok (.ireturn, 1) := by decide +kernel
theorem dX5_readNumber_121 : decode cX5_readNumber 121 = .ok (.iload 4, 2) := by decide +kernel
theorem dX5_readNumber_123 : decode cX5_readNumber 123 = .ok (.ireturn, 1) := by decide +kernel
theorem dX5_readSieve_0 : decode cX5_readSieve 0 = .ok (.aload_n 0, 1) := by decide +kernel
theorem dX5_readSieve_1 : decode cX5_readSieve 1 = .ok (.invokevirtual 122, 3) := by decide +kernel
theorem dX5_readSieve_4 : decode cX5_readSieve 4 = .ok (.istore_n 2, 1) := by decide +kernel
theorem dX5_readSieve_5 : decode cX5_readSieve 5 = .ok (.aload_n 0, 1) := by decide +kernel
theorem dX5_readSieve_6 : decode cX5_readSieve 6 = .ok (.getfield 28, 3) := by decide +kernel
theorem dX5_readSieve_9 : decode cX5_readSieve 9 = .ok (.iload_n 1, 1) := by decide +kernel
theorem dX5_readSieve_10 : decode cX5_readSieve 10 = .ok (.iload_n 2, 1) := by decide +kernel
theorem dX5_readSieve_11 : decode cX5_readSieve 11 = .ok (.bipush 112, 2) := by decide +kernel
theorem dX5_readSieve_13 : decode cX5_readSieve 13 = .ok (.if_icmp .ne 7, 3) := by decide +kernel
theorem dX5_readSieve_16 : decode cX5_readSieve 16 = .ok (.iconst 0, 1) := by decide +kernel
theorem dX5_readSieve_17 : decode cX5_readSieve 17 = .ok (.goto 34, 3) := by decide +kernel
theorem dX5_readSieve_20 : decode cX5_readSieve 20 = .ok (.iload_n 2, 1) := by decide +kernel
theorem dX5_readSieve_21 : decode cX5_readSieve 21 = .ok (.bipush 115, 2) := by decide +kernel
theorem dX5_readSieve_23 : decode cX5_readSieve 23 = .ok (.if_icmp .ne 7, 3) := by decide +kernel
theorem dX5_readSieve_26 : decode cX5_readSieve 26 = .ok (.iconst 1, 1) := by decide +kernel
theorem dX5_readSieve_27 : decode cX5_readSieve 27 = .ok (.goto 24, 3) := by decide +kernel
theorem dX5_readSieve_30 : decode cX5_readSieve 30 = .ok (.iload_n 2, 1) := by decide +kernel
theorem dX5_readSieve_31 : decode cX5_readSieve 31 = .ok (.bipush 107, 2) := by decide +kernel
theorem dX5_readSieve_33 : decode cX5_readSieve 33 = .ok (.if_icmp .ne 7, 3) := by decide +kernel
theorem dX5_readSieve_36 : decode cX5_readSieve 36 = .ok (.iconst 2, 1) := by decide +kernel
theorem dX5_readSieve_37 : decode cX5_readSieve 37 = .ok (.goto 14, 3) := by decide +kernel
theorem dX5_readSieve_40 : decode cX5_readSieve 40 = .ok (.iload_n 2, 1) := by decide +kernel
theorem dX5_readSieve_41 : decode cX5_readSieve 41 = .ok (.bipush 116, 2) := by decide +kernel
theorem dX5_readSieve_43 : decode cX5_readSieve 43 = .ok (.if_icmp .ne 7, 3) := by decide +kernel
theorem dX5_readSieve_46 : decode cX5_readSieve 46 = .ok (.iconst 3, 1) := by decide +kernel
theorem dX5_readSieve_47 : decode cX5_readSieve 47 = .ok (.goto 4, 3) := by decide +kernel
theorem dX5_readSieve_50 : decode cX5_readSieve 50 = .ok (.iconst (-1), 1) := by decide +kernel
theorem dX5_readSieve_51 : decode cX5_readSieve 51 = .ok (.iastore, 1) := by decide +kernel
theorem dX5_readSieve_52 : decode cX5_readSieve 52 = .ok (.aload_n 0, 1) := by decide +kernel
theorem dX5_readSieve_53 : decode cX5_readSieve 53 = .ok (.getfield 28, 3) := by decide +kernel
theorem dX5_readSieve_56 : decode cX5_readSieve 56 = .ok (.iload_n 1, 1) := by decide +kernel
theorem dX5_readSieve_57 : decode cX5_readSieve 57 = .ok (.iaload, 1) := by decide +kernel
theorem dX5_readSieve_58 : decode cX5_readSieve 58 = .ok (.ifCond .ge 5, 3) := by decide +kernel
theorem dX5_readSieve_61 : decode cX5_readSieve 61 = .ok (.iconst 0, 1) := by decide +kernel
theorem dX5_readSieve_62 : decode cX5_readSieve 62 = .ok (.ireturn, 1) := by decide +kernel
theorem dX5_readSieve_63 : decode cX5_readSieve 63 = .ok (.aload_n 0, 1) := by decide +kernel
theorem dX5_readSieve_64 : decode cX5_readSieve 64 = .ok (.dup, 1) := by decide +kernel
theorem dX5_readSieve_65 : decode cX5_readSieve 65 = .ok (.getfield 119, 3) := by decide +kernel
theorem dX5_readSieve_68 : decode cX5_readSieve 68 = .ok (.iconst 1, 1) := by decide +kernel
theorem dX5_readSieve_69 : decode cX5_readSieve 69 = .ok (.iadd, 1) := by decide +kernel
theorem dX5_readSieve_70 : decode cX5_readSieve 70 = .ok (.putfield 119, 3) := by decide +kernel
theorem dX5_readSieve_73 : decode cX5_readSieve 73 = .ok (.aload_n 0, 1) := by decide +kernel
theorem dX5_readSieve_74 : decode cX5_readSieve 74 = .ok (.getfield 28, 3) := by decide +kernel
theorem dX5_readSieve_77 : decode cX5_readSieve 77 = .ok (.iload_n 1, 1) := by decide +kernel
theorem dX5_readSieve_78 : decode cX5_readSieve 78 = .ok (.iconst 1, 1) := by decide +kernel
theorem dX5_readSieve_79 : decode cX5_readSieve 79 = .ok (.iadd, 1) := by decide +kernel
theorem dX5_readSieve_80 : decode cX5_readSieve 80 = .ok (.aload_n 0, 1) := by decide +kernel
theorem dX5_readSieve_81 : decode cX5_readSieve 81 = .ok (.iconst 1, 1) := by decide +kernel
theorem dX5_readSieve_82 : decode cX5_readSieve 82 = .ok (.bipush 60, 2) := by decide +kernel
theorem dX5_readSieve_84 : decode cX5_readSieve 84 = .ok (.invokevirtual 131, 3) := by decide +kernel
theorem dX5_readSieve_87 : decode cX5_readSieve 87 = .ok (.iastore, 1) := by decide +kernel
theorem dX5_readSieve_88 : decode cX5_readSieve 88 = .ok (.aload_n 0, 1) := by decide +kernel
theorem dX5_readSieve_89 : decode cX5_readSieve 89 = .ok (.getfield 28, 3) := by decide +kernel
theorem dX5_readSieve_92 : decode cX5_readSieve 92 = .ok (.iload_n 1, 1) := by decide +kernel
theorem dX5_readSieve_93 : decode cX5_readSieve 93 = .ok (.iconst 1, 1) := by decide +kernel
theorem dX5_readSieve_94 : decode cX5_readSieve 94 = .ok (.iadd, 1) := by decide +kernel
theorem dX5_readSieve_95 : decode cX5_readSieve 95 = .ok (.iaload, 1) := by decide +kernel
theorem dX5_readSieve_96 : decode cX5_readSieve 96 = .ok (.ifCond .ge 5, 3) := by decide +kernel
theorem dX5_readSieve_99 : decode cX5_readSieve 99 = .ok (.iconst 0, 1) := by decide +kernel
theorem dX5_readSieve_100 : decode cX5_readSieve 100 = .ok (.ireturn, 1) := by decide +kernel
theorem dX5_readSieve_101 : decode cX5_readSieve 101 = .ok (.aload_n 0, 1) := by decide +kernel
theorem dX5_readSieve_102 : decode cX5_readSieve 102 = .ok (.getfield 28, 3) := by decide +kernel
theorem dX5_readSieve_105 : decode cX5_readSieve 105 = .ok (.iload_n 1, 1) := by decide +kernel
theorem dX5_readSieve_106 : decode cX5_readSieve 106 = .ok (.iconst 2, 1) := by decide +kernel
theorem dX5_readSieve_107 : decode cX5_readSieve 107 = .ok (.iadd, 1) := by decide +kernel
theorem dX5_readSieve_108 : decode cX5_readSieve 108 = .ok (.aload_n 0, 1) := by decide +kernel
theorem dX5_readSieve_109 : decode cX5_readSieve 109 = .ok (.bipush 104, 2) := by decide +kernel
theorem dX5_readSieve_111 : decode cX5_readSieve 111 = .ok (.invokevirtual 135, 3) := by decide +kernel
theorem dX5_readSieve_114 : decode cX5_readSieve 114 = .ok (.ifCond .eq 13, 3) := by decide +kernel
theorem dX5_readSieve_117 : decode cX5_readSieve 117 = .ok (.aload_n 0, 1) := by decide +kernel
theorem dX5_readSieve_118 : decode cX5_readSieve 118 = .ok (.iconst 1, 1) := by decide +kernel
theorem dX5_readSieve_119 : decode cX5_readSieve 119 = .ok (.ldc 138, 2) := by decide +kernel
theorem dX5_readSieve_121 : decode cX5_readSieve 121 = .ok (.invokevirtual 131, 3) := by decide +kernel
theorem dX5_readSieve_124 : decode cX5_readSieve 124 = .ok (.goto 5, 3) := by decide +kernel
theorem dX5_readSieve_127 : decode cX5_readSieve 127 = .ok (.ldc 138, 2) := by decide +kernel
theorem dX5_readSieve_129 : decode cX5_readSieve 129 = .ok (.iastore, 1) := by decide +kernel
theorem dX5_readSieve_130 : decode cX5_readSieve 130 = .ok (.aload_n 0, 1) := by decide +kernel
theorem dX5_readSieve_131 : decode cX5_readSieve 131 = .ok (.getfield 28, 3) := by decide +kernel
theorem dX5_readSieve_134 : decode cX5_readSieve 134 = .ok (.iload_n 1, 1) := by decide +kernel
theorem dX5_readSieve_135 : decode cX5_readSieve 135 = .ok (.iconst 2, 1) := by decide +kernel
theorem dX5_readSieve_136 : decode cX5_readSieve 136 = .ok (.iadd, 1) := by decide +kernel
theorem dX5_readSieve_137 : decode cX5_readSieve 137 = .ok (.iaload, 1) := by decide +kernel
theorem dX5_readSieve_138 : decode cX5_readSieve 138 = .ok (.ifCond .ge 5, 3) := by decide +kernel
theorem dX5_readSieve_141 : decode cX5_readSieve 141 = .ok (.iconst 0, 1) := by decide +kernel
theorem dX5_readSieve_142 : decode cX5_readSieve 142 = .ok (.ireturn, 1) := by decide +kernel
theorem dX5_readSieve_143 : decode cX5_readSieve 143 = .ok (.aload_n 0, 1) := by decide +kernel
theorem dX5_readSieve_144 : decode cX5_readSieve 144 = .ok (.getfield 28, 3) := by decide +kernel
theorem dX5_readSieve_147 : decode cX5_readSieve 147 = .ok (.iload_n 1, 1) := by decide +kernel
theorem dX5_readSieve_148 : decode cX5_readSieve 148 = .ok (.iconst 3, 1) := by decide +kernel
theorem dX5_readSieve_149 : decode cX5_readSieve 149 = .ok (.iadd, 1) := by decide +kernel
theorem dX5_readSieve_150 : decode cX5_readSieve 150 = .ok (.iconst 0, 1) := by decide +kernel
theorem dX5_readSieve_151 : decode cX5_readSieve 151 = .ok (.iastore, 1) := by decide +kernel
theorem dX5_readSieve_152 : decode cX5_readSieve 152 = .ok (.aload_n 0, 1) := by decide +kernel
theorem dX5_readSieve_153 : decode cX5_readSieve 153 = .ok (.bipush 119, 2) := by decide +kernel
theorem dX5_readSieve_155 : decode cX5_readSieve 155 = .ok (.invokevirtual 135, 3) := by decide +kernel
theorem dX5_readSieve_158 : decode cX5_readSieve 158 = .ok (.ifCond .eq 49, 3) := by decide +kernel
theorem dX5_readSieve_161 : decode cX5_readSieve 161 = .ok (.aload_n 0, 1) := by decide +kernel
theorem dX5_readSieve_162 : decode cX5_readSieve 162 = .ok (.getfield 28, 3) := by decide +kernel
theorem dX5_readSieve_165 : decode cX5_readSieve 165 = .ok (.iload_n 1, 1) := by decide +kernel
theorem dX5_readSieve_166 : decode cX5_readSieve 166 = .ok (.iconst 3, 1) := by decide +kernel
theorem dX5_readSieve_167 : decode cX5_readSieve 167 = .ok (.iadd, 1) := by decide +kernel
theorem dX5_readSieve_168 : decode cX5_readSieve 168 = .ok (.aload_n 0, 1) := by decide +kernel
theorem dX5_readSieve_169 : decode cX5_readSieve 169 = .ok (.invokevirtual 122, 3) := by decide +kernel
theorem dX5_readSieve_172 : decode cX5_readSieve 172 = .ok (.bipush 48, 2) := by decide +kernel
theorem dX5_readSieve_174 : decode cX5_readSieve 174 = .ok (.isub, 1) := by decide +kernel
theorem dX5_readSieve_175 : decode cX5_readSieve 175 = .ok (.iastore, 1) := by decide +kernel
theorem dX5_readSieve_176 : decode cX5_readSieve 176 = .ok (.aload_n 0, 1) := by decide +kernel
theorem dX5_readSieve_177 : decode cX5_readSieve 177 = .ok (.getfield 28, 3) := by decide +kernel
theorem dX5_readSieve_180 : decode cX5_readSieve 180 = .ok (.iload_n 1, 1) := by decide +kernel
theorem dX5_readSieve_181 : decode cX5_readSieve 181 = .ok (.iconst 3, 1) := by decide +kernel
theorem dX5_readSieve_182 : decode cX5_readSieve 182 = .ok (.iadd, 1) := by decide +kernel
theorem dX5_readSieve_183 : decode cX5_readSieve 183 = .ok (.iaload, 1) := by decide +kernel
theorem dX5_readSieve_184 : decode cX5_readSieve 184 = .ok (.i2l, 1) := by decide +kernel
theorem dX5_readSieve_185 : decode cX5_readSieve 185 = .ok (.lconst 0, 1) := by decide +kernel
theorem dX5_readSieve_186 : decode cX5_readSieve 186 = .ok (.ldc2_w 91, 3) := by decide +kernel
theorem dX5_readSieve_189 : decode cX5_readSieve 189 = .ok (.invokestatic 68, 3) := by decide +kernel
theorem dX5_readSieve_192 : decode cX5_readSieve 192 = .ok (.ifCond .ne 5, 3) := by decide +kernel
theorem dX5_readSieve_195 : decode cX5_readSieve 195 = .ok (.iconst 0, 1) := by decide +kernel
theorem dX5_readSieve_196 : decode cX5_readSieve 196 = .ok (.ireturn, 1) := by decide +kernel
theorem dX5_readSieve_197 : decode cX5_readSieve 197 = .ok (.aload_n 0, 1) := by decide +kernel
theorem dX5_readSieve_198 : decode cX5_readSieve 198 = .ok (.dup, 1) := by decide +kernel
theorem dX5_readSieve_199 : decode cX5_readSieve 199 = .ok (.getfield 119, 3) := by decide +kernel
theorem dX5_readSieve_202 : decode cX5_readSieve 202 = .ok (.iconst 1, 1) := by decide +kernel
theorem dX5_readSieve_203 : decode cX5_readSieve 203 = .ok (.iadd, 1) := by decide +kernel
theorem dX5_readSieve_204 : decode cX5_readSieve 204 = .ok (.putfield 119, 3) := by decide +kernel
theorem dX5_readSieve_207 : decode cX5_readSieve 207 = .ok (.iconst 1, 1) := by decide +kernel
theorem dX5_readSieve_208 : decode cX5_readSieve 208 = .ok (.ireturn, 1) := by decide +kernel
theorem dX5_readGrain_0 : decode cX5_readGrain 0 = .ok (.aload_n 0, 1) := by decide +kernel
theorem dX5_readGrain_1 : decode cX5_readGrain 1 = .ok (.getfield 28, 3) := by decide +kernel
theorem dX5_readGrain_4 : decode cX5_readGrain 4 = .ok (.iload_n 1, 1) := by decide +kernel
theorem dX5_readGrain_5 : decode cX5_readGrain 5 = .ok (.aload_n 0, 1) := by decide +kernel
theorem dX5_readGrain_6 : decode cX5_readGrain 6 = .ok (.iconst 1, 1) := by decide +kernel
theorem dX5_readGrain_7 : decode cX5_readGrain 7 = .ok (.bipush 60, 2) := by decide +kernel
theorem dX5_readGrain_9 : decode cX5_readGrain 9 = .ok (.invokevirtual 131, 3) := by decide +kernel
theorem dX5_readGrain_12 : decode cX5_readGrain 12 = .ok (.iastore, 1) := by decide +kernel
theorem dX5_readGrain_13 : decode cX5_readGrain 13 = .ok (.aload_n 0, 1) := by decide +kernel
theorem dX5_readGrain_14 : decode cX5_readGrain 14 = .ok (.getfield 28, 3) := by decide +kernel
theorem dX5_readGrain_17 : decode cX5_readGrain 17 = .ok (.iload_n 1, 1) := by decide +kernel
theorem dX5_readGrain_18 : decode cX5_readGrain 18 = .ok (.iaload, 1) := by decide +kernel
theorem dX5_readGrain_19 : decode cX5_readGrain 19 = .ok (.ifCond .ge 5, 3) := by decide +kernel
theorem dX5_readGrain_22 : decode cX5_readGrain 22 = .ok (.iconst 0, 1) := by decide +kernel
theorem dX5_readGrain_23 : decode cX5_readGrain 23 = .ok (.ireturn, 1) := by decide +kernel
theorem dX5_readGrain_24 : decode cX5_readGrain 24 = .ok (.aload_n 0, 1) := by decide +kernel
theorem dX5_readGrain_25 : decode cX5_readGrain 25 = .ok (.getfield 28, 3) := by decide +kernel
theorem dX5_readGrain_28 : decode cX5_readGrain 28 = .ok (.iload_n 1, 1) := by decide +kernel
theorem dX5_readGrain_29 : decode cX5_readGrain 29 = .ok (.iconst 1, 1) := by decide +kernel
theorem dX5_readGrain_30 : decode cX5_readGrain 30 = .ok (.iadd, 1) := by decide +kernel
theorem dX5_readGrain_31 : decode cX5_readGrain 31 = .ok (.aload_n 0, 1) := by decide +kernel
theorem dX5_readGrain_32 : decode cX5_readGrain 32 = .ok (.bipush 42, 2) := by decide +kernel
theorem dX5_readGrain_34 : decode cX5_readGrain 34 = .ok (.invokevirtual 135, 3) := by decide +kernel
theorem dX5_readGrain_37 : decode cX5_readGrain 37 = .ok (.ifCond .eq 14, 3) := by decide +kernel
theorem dX5_readGrain_40 : decode cX5_readGrain 40 = .ok (.aload_n 0, 1) := by decide +kernel
theorem dX5_readGrain_41 : decode cX5_readGrain 41 = .ok (.iconst 0, 1) := by decide +kernel
theorem dX5_readGrain_42 : decode cX5_readGrain 42 = .ok (.sipush 9999, 3) := by decide +kernel
theorem dX5_readGrain_45 : decode cX5_readGrain 45 = .ok (.invokevirtual 131, 3) := by decide +kernel
theorem dX5_readGrain_48 : decode cX5_readGrain 48 = .ok (.goto 4, 3) := by decide +kernel
theorem dX5_readGrain_51 : decode cX5_readGrain 51 = .ok (.iconst 1, 1) := by decide +kernel
theorem dX5_readGrain_52 : decode cX5_readGrain 52 = .ok (.iastore, 1) := by decide +kernel
theorem dX5_readGrain_53 : decode cX5_readGrain 53 = .ok (.aload_n 0, 1) := by decide +kernel
theorem dX5_readGrain_54 : decode cX5_readGrain 54 = .ok (.getfield 28, 3) := by decide +kernel
theorem dX5_readGrain_57 : decode cX5_readGrain 57 = .ok (.iload_n 1, 1) := by decide +kernel
theorem dX5_readGrain_58 : decode cX5_readGrain 58 = .ok (.iconst 1, 1) := by decide +kernel
theorem dX5_readGrain_59 : decode cX5_readGrain 59 = .ok (.iadd, 1) := by decide +kernel
theorem dX5_readGrain_60 : decode cX5_readGrain 60 = .ok (.iaload, 1) := by decide +kernel
theorem dX5_readGrain_61 : decode cX5_readGrain 61 = .ok (.ifCond .ge 5, 3) := by decide +kernel
theorem dX5_readGrain_64 : decode cX5_readGrain 64 = .ok (.iconst 0, 1) := by decide +kernel
theorem dX5_readGrain_65 : decode cX5_readGrain 65 = .ok (.ireturn, 1) := by decide +kernel
theorem dX5_readGrain_66 : decode cX5_readGrain 66 = .ok (.aload_n 0, 1) := by decide +kernel
theorem dX5_readGrain_67 : decode cX5_readGrain 67 = .ok (.getfield 28, 3) := by decide +kernel
theorem dX5_readGrain_70 : decode cX5_readGrain 70 = .ok (.iload_n 1, 1) := by decide +kernel
theorem dX5_readGrain_71 : decode cX5_readGrain 71 = .ok (.iconst 2, 1) := by decide +kernel
theorem dX5_readGrain_72 : decode cX5_readGrain 72 = .ok (.iadd, 1) := by decide +kernel
theorem dX5_readGrain_73 : decode cX5_readGrain 73 = .ok (.aload_n 0, 1) := by decide +kernel
theorem dX5_readGrain_74 : decode cX5_readGrain 74 = .ok (.bipush 36, 2) := by decide +kernel
theorem dX5_readGrain_76 : decode cX5_readGrain 76 = .ok (.invokevirtual 135, 3) := by decide +kernel
theorem dX5_readGrain_79 : decode cX5_readGrain 79 = .ok (.ifCond .eq 13, 3) := by decide +kernel
theorem dX5_readGrain_82 : decode cX5_readGrain 82 = .ok (.aload_n 0, 1) := by decide +kernel
theorem dX5_readGrain_83 : decode cX5_readGrain 83 = .ok (.iconst 0, 1) := by decide +kernel
theorem dX5_readGrain_84 : decode cX5_readGrain 84 = .ok (.bipush 99, 2) := by decide +kernel
theorem dX5_readGrain_86 : decode cX5_readGrain 86 = .ok (.invokevirtual 131, 3) := by decide +kernel
theorem dX5_readGrain_89 : decode cX5_readGrain 89 = .ok (.goto 4, 3) := by decide +kernel
theorem dX5_readGrain_92 : decode cX5_readGrain 92 = .ok (.iconst 0, 1) := by decide +kernel
theorem dX5_readGrain_93 : decode cX5_readGrain 93 = .ok (.iastore, 1) := by decide +kernel
theorem dX5_readGrain_94 : decode cX5_readGrain 94 = .ok (.aload_n 0, 1) := by decide +kernel
theorem dX5_readGrain_95 : decode cX5_readGrain 95 = .ok (.getfield 28, 3) := by decide +kernel
theorem dX5_readGrain_98 : decode cX5_readGrain 98 = .ok (.iload_n 1, 1) := by decide +kernel
theorem dX5_readGrain_99 : decode cX5_readGrain 99 = .ok (.iconst 2, 1) := by decide +kernel
theorem dX5_readGrain_100 : decode cX5_readGrain 100 = .ok (.iadd, 1) := by decide +kernel
theorem dX5_readGrain_101 : decode cX5_readGrain 101 = .ok (.iaload, 1) := by decide +kernel
theorem dX5_readGrain_102 : decode cX5_readGrain 102 = .ok (.ifCond .lt 7, 3) := by decide +kernel
theorem dX5_readGrain_105 : decode cX5_readGrain 105 = .ok (.iconst 1, 1) := by decide +kernel
theorem dX5_readGrain_106 : decode cX5_readGrain 106 = .ok (.goto 4, 3) := by decide +kernel
theorem dX5_readGrain_109 : decode cX5_readGrain 109 = .ok (.iconst 0, 1) := by decide +kernel
theorem dX5_readGrain_110 : decode cX5_readGrain 110 = .ok (.ireturn, 1) := by decide +kernel
theorem dX5_readAll_0 : decode cX5_readAll 0 = .ok (.aload_n 0, 1) := by decide +kernel
theorem dX5_readAll_1 : decode cX5_readAll 1 = .ok (.iconst 0, 1) := by decide +kernel
theorem dX5_readAll_2 : decode cX5_readAll 2 = .ok (.putfield 119, 3) := by decide +kernel
theorem dX5_readAll_5 : decode cX5_readAll 5 = .ok (.iconst 0, 1) := by decide +kernel
theorem dX5_readAll_6 : decode cX5_readAll 6 = .ok (.istore_n 3, 1) := by decide +kernel
theorem dX5_readAll_7 : decode cX5_readAll 7 = .ok (.iload_n 3, 1) := by decide +kernel
theorem dX5_readAll_8 : decode cX5_readAll 8 = .ok (.iload_n 1, 1) := by decide +kernel
theorem dX5_readAll_9 : decode cX5_readAll 9 = .ok (.if_icmp .ge 84, 3) := by decide +kernel
theorem dX5_readAll_12 : decode cX5_readAll 12 = .ok (.iload_n 2, 1) := by decide +kernel
theorem dX5_readAll_13 : decode cX5_readAll 13 = .ok (.ifCond .eq 16, 3) := by decide +kernel
theorem dX5_readAll_16 : decode cX5_readAll 16 = .ok (.aload_n 0, 1) := by decide +kernel
theorem dX5_readAll_17 : decode cX5_readAll 17 = .ok (.iconst 4, 1) := by decide +kernel
theorem dX5_readAll_18 : decode cX5_readAll 18 = .ok (.iload_n 3, 1) := by decide +kernel
theorem dX5_readAll_19 : decode cX5_readAll 19 = .ok (.imul, 1) := by decide +kernel
theorem dX5_readAll_20 : decode cX5_readAll 20 = .ok (.invokevirtual 139, 3) := by decide +kernel
theorem dX5_readAll_23 : decode cX5_readAll 23 = .ok (.ifCond .eq 16, 3) := by decide +kernel
theorem dX5_readAll_26 : decode cX5_readAll 26 = .ok (.goto 15, 3) := by decide +kernel
theorem dX5_readAll_29 : decode cX5_readAll 29 = .ok (.aload_n 0, 1) := by decide +kernel
theorem dX5_readAll_30 : decode cX5_readAll 30 = .ok (.iconst 3, 1) := by decide +kernel
theorem dX5_readAll_31 : decode cX5_readAll 31 = .ok (.iload_n 3, 1) := by decide +kernel
theorem dX5_readAll_32 : decode cX5_readAll 32 = .ok (.imul, 1) := by decide +kernel
theorem dX5_readAll_33 : decode cX5_readAll 33 = .ok (.invokevirtual 142, 3) := by decide +kernel
theorem dX5_readAll_36 : decode cX5_readAll 36 = .ok (.ifCond .ne 5, 3) := by decide +kernel
theorem dX5_readAll_39 : decode cX5_readAll 39 = .ok (.iconst 0, 1) := by decide +kernel
theorem dX5_readAll_40 : decode cX5_readAll 40 = .ok (.ireturn, 1) := by decide +kernel
theorem dX5_readAll_41 : decode cX5_readAll 41 = .ok (.aload_n 0, 1) := by decide +kernel
theorem dX5_readAll_42 : decode cX5_readAll 42 = .ok (.iload_n 3, 1) := by decide +kernel
theorem dX5_readAll_43 : decode cX5_readAll 43 = .ok (.iconst 1, 1) := by decide +kernel
theorem dX5_readAll_44 : decode cX5_readAll 44 = .ok (.iadd, 1) := by decide +kernel
theorem dX5_readAll_45 : decode cX5_readAll 45 = .ok (.putfield 145, 3) := by decide +kernel
theorem dX5_readAll_48 : decode cX5_readAll 48 = .ok (.aload_n 0, 1) := by decide +kernel
theorem dX5_readAll_49 : decode cX5_readAll 49 = .ok (.invokevirtual 122, 3) := by decide +kernel
theorem dX5_readAll_52 : decode cX5_readAll 52 = .ok (.istore 4, 2) := by decide +kernel
theorem dX5_readAll_54 : decode cX5_readAll 54 = .ok (.iload 4, 2) := by decide +kernel
theorem dX5_readAll_56 : decode cX5_readAll 56 = .ok (.ifCond .ge 5, 3) := by decide +kernel
theorem dX5_readAll_59 : decode cX5_readAll 59 = .ok (.iconst 1, 1) := by decide +kernel
theorem dX5_readAll_60 : decode cX5_readAll 60 = .ok (.ireturn, 1) := by decide +kernel
theorem dX5_readAll_61 : decode cX5_readAll 61 = .ok (.iload 4, 2) := by decide +kernel
theorem dX5_readAll_63 : decode cX5_readAll 63 = .ok (.bipush 44, 2) := by decide +kernel
theorem dX5_readAll_65 : decode cX5_readAll 65 = .ok (.if_icmp .ne 10, 3) := by decide +kernel
theorem dX5_readAll_68 : decode cX5_readAll 68 = .ok (.iload_n 3, 1) := by decide +kernel
theorem dX5_readAll_69 : decode cX5_readAll 69 = .ok (.iload_n 1, 1) := by decide +kernel
theorem dX5_readAll_70 : decode cX5_readAll 70 = .ok (.iconst 1, 1) := by decide +kernel
theorem dX5_readAll_71 : decode cX5_readAll 71 = .ok (.isub, 1) := by decide +kernel
theorem dX5_readAll_72 : decode cX5_readAll 72 = .ok (.if_icmp .ne 5, 3) := by decide +kernel
theorem dX5_readAll_75 : decode cX5_readAll 75 = .ok (.iconst 0, 1) := by decide +kernel
theorem dX5_readAll_76 : decode cX5_readAll 76 = .ok (.ireturn, 1) := by decide +kernel
theorem dX5_readAll_77 : decode cX5_readAll 77 = .ok (.aload_n 0, 1) := by decide +kernel
theorem dX5_readAll_78 : decode cX5_readAll 78 = .ok (.dup, 1) := by decide +kernel
theorem dX5_readAll_79 : decode cX5_readAll 79 = .ok (.getfield 119, 3) := by decide +kernel
theorem dX5_readAll_82 : decode cX5_readAll 82 = .ok (.iconst 1, 1) := by decide +kernel
theorem dX5_readAll_83 : decode cX5_readAll 83 = .ok (.iadd, 1) := by decide +kernel
theorem dX5_readAll_84 : decode cX5_readAll 84 = .ok (.putfield 119, 3) := by decide +kernel
theorem dX5_readAll_87 : decode cX5_readAll 87 = .ok (.iinc 3 1, 3) := by decide +kernel
theorem dX5_readAll_90 : decode cX5_readAll 90 = .ok (.goto (-83), 3) := by decide +kernel
theorem dX5_readAll_93 : decode cX5_readAll 93 = .ok (.iconst 0, 1) := by decide +kernel
theorem dX5_readAll_94 : decode cX5_readAll 94 = .ok (.ireturn, 1) := by decide +kernel
theorem dX5_end_0 : decode cX5_end 0 = .ok (.iload_n 1, 1) := by decide +kernel
theorem dX5_end_1 : decode cX5_end 1 = .ok (.ifCond .ne 8, 3) := by decide +kernel
theorem dX5_end_4 : decode cX5_end 4 = .ok (.aload_n 0, 1) := by decide +kernel
theorem dX5_end_5 : decode cX5_end 5 = .ok (.invokevirtual 122, 3) := by decide +kernel
theorem dX5_end_8 : decode cX5_end 8 = .ok (.pop, 1) := by decide +kernel
theorem dX5_end_9 : decode cX5_end 9 = .ok (.aload_n 0, 1) := by decide +kernel
theorem dX5_end_10 : decode cX5_end 10 = .ok (.iconst 0, 1) := by decide +kernel
theorem dX5_end_11 : decode cX5_end 11 = .ok (.putfield 116, 3) := by decide +kernel
theorem dX5_end_14 : decode cX5_end 14 = .ok (.iload_n 1, 1) := by decide +kernel
theorem dX5_end_15 : decode cX5_end 15 = .ok (.ifCond .eq 7, 3) := by decide +kernel
theorem dX5_end_18 : decode cX5_end 18 = .ok (.iconst 0, 1) := by decide +kernel
theorem dX5_end_19 : decode cX5_end 19 = .ok (.goto 10, 3) := by decide +kernel
theorem dX5_end_22 : decode cX5_end 22 = .ok (.bipush (-20), 2) := by decide +kernel
theorem dX5_end_24 : decode cX5_end 24 = .ok (.aload_n 0, 1) := by decide +kernel
theorem dX5_end_25 : decode cX5_end 25 = .ok (.getfield 119, 3) := by decide +kernel
theorem dX5_end_28 : decode cX5_end 28 = .ok (.isub, 1) := by decide +kernel
theorem dX5_end_29 : decode cX5_end 29 = .ok (.ireturn, 1) := by decide +kernel
theorem dX5_loft_0 : decode cX5_loft 0 = .ok (.aload_n 0, 1) := by decide +kernel
theorem dX5_loft_1 : decode cX5_loft 1 = .ok (.aload_n 0, 1) := by decide +kernel
theorem dX5_loft_2 : decode cX5_loft 2 = .ok (.bipush 8, 2) := by decide +kernel
theorem dX5_loft_4 : decode cX5_loft 4 = .ok (.iconst 1, 1) := by decide +kernel
theorem dX5_loft_5 : decode cX5_loft 5 = .ok (.invokevirtual 148, 3) := by decide +kernel
theorem dX5_loft_8 : decode cX5_loft 8 = .ok (.invokevirtual 152, 3) := by decide +kernel
theorem dX5_loft_11 : decode cX5_loft 11 = .ok (.istore_n 1, 1) := by decide +kernel
theorem dX5_loft_12 : decode cX5_loft 12 = .ok (.iload_n 1, 1) := by decide +kernel
theorem dX5_loft_13 : decode cX5_loft 13 = .ok (.ifCond .ge 5, 3) := by decide +kernel
theorem dX5_loft_16 : decode cX5_loft 16 = .ok (.iload_n 1, 1) := by decide +kernel
theorem dX5_loft_17 : decode cX5_loft 17 = .ok (.ireturn, 1) := by decide +kernel
theorem dX5_loft_18 : decode cX5_loft 18 = .ok (.aload_n 0, 1) := by decide +kernel
theorem dX5_loft_19 : decode cX5_loft 19 = .ok (.iconst 0, 1) := by decide +kernel
theorem dX5_loft_20 : decode cX5_loft 20 = .ok (.putfield 72, 3) := by decide +kernel
theorem dX5_loft_23 : decode cX5_loft 23 = .ok (.aload_n 0, 1) := by decide +kernel
theorem dX5_loft_24 : decode cX5_loft 24 = .ok (.iconst 0, 1) := by decide +kernel
theorem dX5_loft_25 : decode cX5_loft 25 = .ok (.putfield 102, 3) := by decide +kernel
theorem dX5_loft_28 : decode cX5_loft 28 = .ok (.iconst 0, 1) := by decide +kernel
theorem dX5_loft_29 : decode cX5_loft 29 = .ok (.istore_n 2, 1) := by decide +kernel
theorem dX5_loft_30 : decode cX5_loft 30 = .ok (.iload_n 2, 1) := by decide +kernel
theorem dX5_loft_31 : decode cX5_loft 31 = .ok (.aload_n 0, 1) := by decide +kernel
theorem dX5_loft_32 : decode cX5_loft 32 = .ok (.getfield 145, 3) := by decide +kernel
theorem dX5_loft_35 : decode cX5_loft 35 = .ok (.if_icmp .ge 51, 3) := by decide +kernel
theorem dX5_loft_38 : decode cX5_loft 38 = .ok (.aload_n 0, 1) := by decide +kernel
theorem dX5_loft_39 : decode cX5_loft 39 = .ok (.aload_n 0, 1) := by decide +kernel
theorem dX5_loft_40 : decode cX5_loft 40 = .ok (.getfield 28, 3) := by decide +kernel
theorem dX5_loft_43 : decode cX5_loft 43 = .ok (.iconst 4, 1) := by decide +kernel
theorem dX5_loft_44 : decode cX5_loft 44 = .ok (.iload_n 2, 1) := by decide +kernel
theorem dX5_loft_45 : decode cX5_loft 45 = .ok (.imul, 1) := by decide +kernel
theorem dX5_loft_46 : decode cX5_loft 46 = .ok (.iaload, 1) := by decide +kernel
theorem dX5_loft_47 : decode cX5_loft 47 = .ok (.aload_n 0, 1) := by decide +kernel
theorem dX5_loft_48 : decode cX5_loft 48 = .ok (.getfield 28, 3) := by decide +kernel
theorem dX5_loft_51 : decode cX5_loft 51 = .ok (.iconst 4, 1) := by decide +kernel
theorem dX5_loft_52 : decode cX5_loft 52 = .ok (.iload_n 2, 1) := by decide +kernel
theorem dX5_loft_53 : decode cX5_loft 53 = .ok (.imul, 1) := by decide +kernel
theorem dX5_loft_54 : decode cX5_loft 54 = .ok (.iconst 1, 1) := by decide +kernel
theorem dX5_loft_55 : decode cX5_loft 55 = .ok (.iadd, 1) := by decide +kernel
theorem dX5_loft_56 : decode cX5_loft 56 = .ok (.iaload, 1) := by decide +kernel
theorem dX5_loft_57 : decode cX5_loft 57 = .ok (.aload_n 0, 1) := by decide +kernel
theorem dX5_loft_58 : decode cX5_loft 58 = .ok (.getfield 28, 3) := by decide +kernel
theorem dX5_loft_61 : decode cX5_loft 61 = .ok (.iconst 4, 1) := by decide +kernel
theorem dX5_loft_62 : decode cX5_loft 62 = .ok (.iload_n 2, 1) := by decide +kernel
theorem dX5_loft_63 : decode cX5_loft 63 = .ok (.imul, 1) := by decide +kernel
theorem dX5_loft_64 : decode cX5_loft 64 = .ok (.iconst 2, 1) := by decide +kernel
theorem dX5_loft_65 : decode cX5_loft 65 = .ok (.iadd, 1) := by decide +kernel
theorem dX5_loft_66 : decode cX5_loft 66 = .ok (.iaload, 1) := by decide +kernel
theorem dX5_loft_67 : decode cX5_loft 67 = .ok (.aload_n 0, 1) := by decide +kernel
theorem dX5_loft_68 : decode cX5_loft 68 = .ok (.getfield 28, 3) := by decide +kernel
theorem dX5_loft_71 : decode cX5_loft 71 = .ok (.iconst 4, 1) := by decide +kernel
theorem dX5_loft_72 : decode cX5_loft 72 = .ok (.iload_n 2, 1) := by decide +kernel
theorem dX5_loft_73 : decode cX5_loft 73 = .ok (.imul, 1) := by decide +kernel
theorem dX5_loft_74 : decode cX5_loft 74 = .ok (.iconst 3, 1) := by decide +kernel
theorem dX5_loft_75 : decode cX5_loft 75 = .ok (.iadd, 1) := by decide +kernel
theorem dX5_loft_76 : decode cX5_loft 76 = .ok (.iaload, 1) := by decide +kernel
theorem dX5_loft_77 : decode cX5_loft 77 = .ok (.invokevirtual 95, 3) := by decide +kernel
theorem dX5_loft_80 : decode cX5_loft 80 = .ok (.iinc 2 1, 3) := by decide +kernel
theorem dX5_loft_83 : decode cX5_loft 83 = .ok (.goto (-53), 3) := by decide +kernel
theorem dX5_loft_86 : decode cX5_loft 86 = .ok (.aload_n 0, 1) := by decide +kernel
theorem dX5_loft_87 : decode cX5_loft 87 = .ok (.getfield 72, 3) := by decide +kernel
theorem dX5_loft_90 : decode cX5_loft 90 = .ok (.ireturn, 1) := by decide +kernel
theorem dX5_heap_0 : decode cX5_heap 0 = .ok (.aload_n 0, 1) := by decide +kernel
theorem dX5_heap_1 : decode cX5_heap 1 = .ok (.aload_n 0, 1) := by decide +kernel
theorem dX5_heap_2 : decode cX5_heap 2 = .ok (.bipush 6, 2) := by decide +kernel
theorem dX5_heap_4 : decode cX5_heap 4 = .ok (.iconst 0, 1) := by decide +kernel
theorem dX5_heap_5 : decode cX5_heap 5 = .ok (.invokevirtual 148, 3) := by decide +kernel
theorem dX5_heap_8 : decode cX5_heap 8 = .ok (.invokevirtual 152, 3) := by decide +kernel
theorem dX5_heap_11 : decode cX5_heap 11 = .ok (.istore_n 1, 1) := by decide +kernel
theorem dX5_heap_12 : decode cX5_heap 12 = .ok (.iload_n 1, 1) := by decide +kernel
theorem dX5_heap_13 : decode cX5_heap 13 = .ok (.ifCond .ge 5, 3) := by decide +kernel
theorem dX5_heap_16 : decode cX5_heap 16 = .ok (.iload_n 1, 1) := by decide +kernel
theorem dX5_heap_17 : decode cX5_heap 17 = .ok (.ireturn, 1) := by decide +kernel
theorem dX5_heap_18 : decode cX5_heap 18 = .ok (.aload_n 0, 1) := by decide +kernel
theorem dX5_heap_19 : decode cX5_heap 19 = .ok (.iconst 0, 1) := by decide +kernel
theorem dX5_heap_20 : decode cX5_heap 20 = .ok (.putfield 64, 3) := by decide +kernel
theorem dX5_heap_23 : decode cX5_heap 23 = .ok (.iconst 0, 1) := by decide +kernel
theorem dX5_heap_24 : decode cX5_heap 24 = .ok (.istore_n 2, 1) := by decide +kernel
theorem dX5_heap_25 : decode cX5_heap 25 = .ok (.iload_n 2, 1) := by decide +kernel
theorem dX5_heap_26 : decode cX5_heap 26 = .ok (.aload_n 0, 1) := by decide +kernel
theorem dX5_heap_27 : decode cX5_heap 27 = .ok (.getfield 145, 3) := by decide +kernel
theorem dX5_heap_30 : decode cX5_heap 30 = .ok (.if_icmp .ge 41, 3) := by decide +kernel
theorem dX5_heap_33 : decode cX5_heap 33 = .ok (.aload_n 0, 1) := by decide +kernel
theorem dX5_heap_34 : decode cX5_heap 34 = .ok (.aload_n 0, 1) := by decide +kernel
theorem dX5_heap_35 : decode cX5_heap 35 = .ok (.getfield 28, 3) := by decide +kernel
theorem dX5_heap_38 : decode cX5_heap 38 = .ok (.iconst 3, 1) := by decide +kernel
theorem dX5_heap_39 : decode cX5_heap 39 = .ok (.iload_n 2, 1) := by decide +kernel
theorem dX5_heap_40 : decode cX5_heap 40 = .ok (.imul, 1) := by decide +kernel
theorem dX5_heap_41 : decode cX5_heap 41 = .ok (.iaload, 1) := by decide +kernel
theorem dX5_heap_42 : decode cX5_heap 42 = .ok (.aload_n 0, 1) := by decide +kernel
theorem dX5_heap_43 : decode cX5_heap 43 = .ok (.getfield 28, 3) := by decide +kernel
theorem dX5_heap_46 : decode cX5_heap 46 = .ok (.iconst 3, 1) := by decide +kernel
theorem dX5_heap_47 : decode cX5_heap 47 = .ok (.iload_n 2, 1) := by decide +kernel
theorem dX5_heap_48 : decode cX5_heap 48 = .ok (.imul, 1) := by decide +kernel
theorem dX5_heap_49 : decode cX5_heap 49 = .ok (.iconst 1, 1) := by decide +kernel
theorem dX5_heap_50 : decode cX5_heap 50 = .ok (.iadd, 1) := by decide +kernel
theorem dX5_heap_51 : decode cX5_heap 51 = .ok (.iaload, 1) := by decide +kernel
theorem dX5_heap_52 : decode cX5_heap 52 = .ok (.aload_n 0, 1) := by decide +kernel
theorem dX5_heap_53 : decode cX5_heap 53 = .ok (.getfield 28, 3) := by decide +kernel
theorem dX5_heap_56 : decode cX5_heap 56 = .ok (.iconst 3, 1) := by decide +kernel
theorem dX5_heap_57 : decode cX5_heap 57 = .ok (.iload_n 2, 1) := by decide +kernel
theorem dX5_heap_58 : decode cX5_heap 58 = .ok (.imul, 1) := by decide +kernel
theorem dX5_heap_59 : decode cX5_heap 59 = .ok (.iconst 2, 1) := by decide +kernel
theorem dX5_heap_60 : decode cX5_heap 60 = .ok (.iadd, 1) := by decide +kernel
theorem dX5_heap_61 : decode cX5_heap 61 = .ok (.iaload, 1) := by decide +kernel
theorem dX5_heap_62 : decode cX5_heap 62 = .ok (.invokevirtual 81, 3) := by decide +kernel
theorem dX5_heap_65 : decode cX5_heap 65 = .ok (.iinc 2 1, 3) := by decide +kernel
theorem dX5_heap_68 : decode cX5_heap 68 = .ok (.goto (-43), 3) := by decide +kernel
theorem dX5_heap_71 : decode cX5_heap 71 = .ok (.aload_n 0, 1) := by decide +kernel
theorem dX5_heap_72 : decode cX5_heap 72 = .ok (.getfield 64, 3) := by decide +kernel
theorem dX5_heap_75 : decode cX5_heap 75 = .ok (.ireturn, 1) := by decide +kernel
theorem dX5_readRow_0 : decode cX5_readRow 0 = .ok (.aload_n 0, 1) := by decide +kernel
theorem dX5_readRow_1 : decode cX5_readRow 1 = .ok (.iconst 0, 1) := by decide +kernel
theorem dX5_readRow_2 : decode cX5_readRow 2 = .ok (.putfield 119, 3) := by decide +kernel
theorem dX5_readRow_5 : decode cX5_readRow 5 = .ok (.aload_n 0, 1) := by decide +kernel
theorem dX5_readRow_6 : decode cX5_readRow 6 = .ok (.iconst 0, 1) := by decide +kernel
theorem dX5_readRow_7 : decode cX5_readRow 7 = .ok (.putfield 145, 3) := by decide +kernel
theorem dX5_readRow_10 : decode cX5_readRow 10 = .ok (.iconst 0, 1) := by decide +kernel
theorem dX5_readRow_11 : decode cX5_readRow 11 = .ok (.istore_n 1, 1) := by decide +kernel
theorem dX5_readRow_12 : decode cX5_readRow 12 = .ok (.aload_n 0, 1) := by decide +kernel
theorem dX5_readRow_13 : decode cX5_readRow 13 = .ok (.invokevirtual 122, 3) := by decide +kernel
theorem dX5_readRow_16 : decode cX5_readRow 16 = .ok (.ifCond .lt 77, 3) := by decide +kernel
theorem dX5_readRow_19 : decode cX5_readRow 19 = .ok (.aload_n 0, 1) := by decide +kernel
theorem dX5_readRow_20 : decode cX5_readRow 20 = .ok (.invokevirtual 122, 3) := by decide +kernel
theorem dX5_readRow_23 : decode cX5_readRow 23 = .ok (.bipush 48, 2) := by decide +kernel
theorem dX5_readRow_25 : decode cX5_readRow 25 = .ok (.isub, 1) := by decide +kernel
theorem dX5_readRow_26 : decode cX5_readRow 26 = .ok (.istore_n 2, 1) := by decide +kernel
theorem dX5_readRow_27 : decode cX5_readRow 27 = .ok (.aload_n 0, 1) := by decide +kernel
theorem dX5_readRow_28 : decode cX5_readRow 28 = .ok (.iload_n 2, 1) := by decide +kernel
theorem dX5_readRow_29 : decode cX5_readRow 29 = .ok (.invokevirtual 99, 3) := by decide +kernel
theorem dX5_readRow_32 : decode cX5_readRow 32 = .ok (.ifCond .eq 20, 3) := by decide +kernel
theorem dX5_readRow_35 : decode cX5_readRow 35 = .ok (.iload_n 1, 1) := by decide +kernel
theorem dX5_readRow_36 : decode cX5_readRow 36 = .ok (.iload_n 2, 1) := by decide +kernel
theorem dX5_readRow_37 : decode cX5_readRow 37 = .ok (.invokestatic 156, 3) := by decide +kernel
theorem dX5_readRow_40 : decode cX5_readRow 40 = .ok (.ifCond .ne 12, 3) := by decide +kernel
theorem dX5_readRow_43 : decode cX5_readRow 43 = .ok (.aload_n 0, 1) := by decide +kernel
theorem dX5_readRow_44 : decode cX5_readRow 44 = .ok (.getfield 145, 3) := by decide +kernel
theorem dX5_readRow_47 : decode cX5_readRow 47 = .ok (.bipush 6, 2) := by decide +kernel
theorem dX5_readRow_49 : decode cX5_readRow 49 = .ok (.if_icmp .ne 5, 3) := by decide +kernel
theorem dX5_readRow_52 : decode cX5_readRow 52 = .ok (.iconst 0, 1) := by decide +kernel
theorem dX5_readRow_53 : decode cX5_readRow 53 = .ok (.ireturn, 1) := by decide +kernel
theorem dX5_readRow_54 : decode cX5_readRow 54 = .ok (.iload_n 1, 1) := by decide +kernel
theorem dX5_readRow_55 : decode cX5_readRow 55 = .ok (.iconst 1, 1) := by decide +kernel
theorem dX5_readRow_56 : decode cX5_readRow 56 = .ok (.iload_n 2, 1) := by decide +kernel
theorem dX5_readRow_57 : decode cX5_readRow 57 = .ok (.ishl, 1) := by decide +kernel
theorem dX5_readRow_58 : decode cX5_readRow 58 = .ok (.ior, 1) := by decide +kernel
theorem dX5_readRow_59 : decode cX5_readRow 59 = .ok (.istore_n 1, 1) := by decide +kernel
theorem dX5_readRow_60 : decode cX5_readRow 60 = .ok (.aload_n 0, 1) := by decide +kernel
theorem dX5_readRow_61 : decode cX5_readRow 61 = .ok (.getfield 28, 3) := by decide +kernel
theorem dX5_readRow_64 : decode cX5_readRow 64 = .ok (.aload_n 0, 1) := by decide +kernel
theorem dX5_readRow_65 : decode cX5_readRow 65 = .ok (.getfield 145, 3) := by decide +kernel
theorem dX5_readRow_68 : decode cX5_readRow 68 = .ok (.iload_n 2, 1) := by decide +kernel
theorem dX5_readRow_69 : decode cX5_readRow 69 = .ok (.iastore, 1) := by decide +kernel
theorem dX5_readRow_70 : decode cX5_readRow 70 = .ok (.aload_n 0, 1) := by decide +kernel
theorem dX5_readRow_71 : decode cX5_readRow 71 = .ok (.dup, 1) := by decide +kernel
theorem dX5_readRow_72 : decode cX5_readRow 72 = .ok (.getfield 145, 3) := by decide +kernel
theorem dX5_readRow_75 : decode cX5_readRow 75 = .ok (.iconst 1, 1) := by decide +kernel
theorem dX5_readRow_76 : decode cX5_readRow 76 = .ok (.iadd, 1) := by decide +kernel
theorem dX5_readRow_77 : decode cX5_readRow 77 = .ok (.putfield 145, 3) := by decide +kernel
theorem dX5_readRow_80 : decode cX5_readRow 80 = .ok (.aload_n 0, 1) := by decide +kernel
theorem dX5_readRow_81 : decode cX5_readRow 81 = .ok (.dup, 1) := by decide +kernel
theorem dX5_readRow_82 : decode cX5_readRow 82 = .ok (.getfield 119, 3) := by decide +kernel
theorem dX5_readRow_85 : decode cX5_readRow 85 = .ok (.iconst 1, 1) := by decide +kernel
theorem dX5_readRow_86 : decode cX5_readRow 86 = .ok (.iadd, 1) := by decide +kernel
theorem dX5_readRow_87 : decode cX5_readRow 87 = .ok (.putfield 119, 3) := by decide +kernel
theorem dX5_readRow_90 : decode cX5_readRow 90 = .ok (.goto (-78), 3) := by decide +kernel
theorem dX5_readRow_93 : decode cX5_readRow 93 = .ok (.iconst 1, 1) := by decide +kernel
theorem dX5_readRow_94 : decode cX5_readRow 94 = .ok (.ireturn, 1) := by decide +kernel
theorem dX5_row_0 : decode cX5_row 0 = .ok (.aload_n 0, 1) := by decide +kernel
theorem dX5_row_1 : decode cX5_row 1 = .ok (.aload_n 0, 1) := by decide +kernel
theorem dX5_row_2 : decode cX5_row 2 = .ok (.invokevirtual 160, 3) := by decide +kernel
theorem dX5_row_5 : decode cX5_row 5 = .ok (.invokevirtual 152, 3) := by decide +kernel
theorem dX5_row_8 : decode cX5_row 8 = .ok (.istore_n 1, 1) := by decide +kernel
theorem dX5_row_9 : decode cX5_row 9 = .ok (.iload_n 1, 1) := by decide +kernel
theorem dX5_row_10 : decode cX5_row 10 = .ok (.ifCond .ge 5, 3) := by decide +kernel
theorem dX5_row_13 : decode cX5_row 13 = .ok (.iload_n 1, 1) := by decide +kernel
theorem dX5_row_14 : decode cX5_row 14 = .ok (.ireturn, 1) := by decide +kernel
theorem dX5_row_15 : decode cX5_row 15 = .ok (.aload_n 0, 1) := by decide +kernel
theorem dX5_row_16 : decode cX5_row 16 = .ok (.aload_n 0, 1) := by decide +kernel
theorem dX5_row_17 : decode cX5_row 17 = .ok (.getfield 145, 3) := by decide +kernel
theorem dX5_row_20 : decode cX5_row 20 = .ok (.putfield 102, 3) := by decide +kernel
theorem dX5_row_23 : decode cX5_row 23 = .ok (.iconst 0, 1) := by decide +kernel
theorem dX5_row_24 : decode cX5_row 24 = .ok (.istore_n 2, 1) := by decide +kernel
theorem dX5_row_25 : decode cX5_row 25 = .ok (.iload_n 2, 1) := by decide +kernel
theorem dX5_row_26 : decode cX5_row 26 = .ok (.aload_n 0, 1) := by decide +kernel
theorem dX5_row_27 : decode cX5_row 27 = .ok (.getfield 145, 3) := by decide +kernel
theorem dX5_row_30 : decode cX5_row 30 = .ok (.if_icmp .ge 21, 3) := by decide +kernel
theorem dX5_row_33 : decode cX5_row 33 = .ok (.aload_n 0, 1) := by decide +kernel
theorem dX5_row_34 : decode cX5_row 34 = .ok (.getfield 22, 3) := by decide +kernel
theorem dX5_row_37 : decode cX5_row 37 = .ok (.iload_n 2, 1) := by decide +kernel
theorem dX5_row_38 : decode cX5_row 38 = .ok (.aload_n 0, 1) := by decide +kernel
theorem dX5_row_39 : decode cX5_row 39 = .ok (.getfield 28, 3) := by decide +kernel
theorem dX5_row_42 : decode cX5_row 42 = .ok (.iload_n 2, 1) := by decide +kernel
theorem dX5_row_43 : decode cX5_row 43 = .ok (.iaload, 1) := by decide +kernel
theorem dX5_row_44 : decode cX5_row 44 = .ok (.iastore, 1) := by decide +kernel
theorem dX5_row_45 : decode cX5_row 45 = .ok (.iinc 2 1, 3) := by decide +kernel
theorem dX5_row_48 : decode cX5_row 48 = .ok (.goto (-23), 3) := by decide +kernel
theorem dX5_row_51 : decode cX5_row 51 = .ok (.aload_n 0, 1) := by decide +kernel
theorem dX5_row_52 : decode cX5_row 52 = .ok (.getfield 102, 3) := by decide +kernel
theorem dX5_row_55 : decode cX5_row 55 = .ok (.ireturn, 1) := by decide +kernel
theorem dX5_begin_0 : decode cX5_begin 0 = .ok (.iconst 0, 1) := by decide +kernel
theorem dX5_begin_1 : decode cX5_begin 1 = .ok (.istore_n 1, 1) := by decide +kernel
theorem dX5_begin_2 : decode cX5_begin 2 = .ok (.iload_n 1, 1) := by decide +kernel
theorem dX5_begin_3 : decode cX5_begin 3 = .ok (.aload_n 0, 1) := by decide +kernel
theorem dX5_begin_4 : decode cX5_begin 4 = .ok (.getfield 72, 3) := by decide +kernel
theorem dX5_begin_7 : decode cX5_begin 7 = .ok (.if_icmp .ge 39, 3) := by decide +kernel
theorem dX5_begin_10 : decode cX5_begin 10 = .ok (.aload_n 0, 1) := by decide +kernel
theorem dX5_begin_11 : decode cX5_begin 11 = .ok (.getfield 34, 3) := by decide +kernel
theorem dX5_begin_14 : decode cX5_begin 14 = .ok (.iload_n 1, 1) := by decide +kernel
theorem dX5_begin_15 : decode cX5_begin 15 = .ok (.aload_n 0, 1) := by decide +kernel
theorem dX5_begin_16 : decode cX5_begin 16 = .ok (.getfield 19, 3) := by decide +kernel
theorem dX5_begin_19 : decode cX5_begin 19 = .ok (.iconst 4, 1) := by decide +kernel
theorem dX5_begin_20 : decode cX5_begin 20 = .ok (.iload_n 1, 1) := by decide +kernel
theorem dX5_begin_21 : decode cX5_begin 21 = .ok (.imul, 1) := by decide +kernel
theorem dX5_begin_22 : decode cX5_begin 22 = .ok (.iaload, 1) := by decide +kernel
theorem dX5_begin_23 : decode cX5_begin 23 = .ok (.iastore, 1) := by decide +kernel
theorem dX5_begin_24 : decode cX5_begin 24 = .ok (.aload_n 0, 1) := by decide +kernel
theorem dX5_begin_25 : decode cX5_begin 25 = .ok (.getfield 37, 3) := by decide +kernel
theorem dX5_begin_28 : decode cX5_begin 28 = .ok (.iload_n 1, 1) := by decide +kernel
theorem dX5_begin_29 : decode cX5_begin 29 = .ok (.aload_n 0, 1) := by decide +kernel
theorem dX5_begin_30 : decode cX5_begin 30 = .ok (.getfield 19, 3) := by decide +kernel
theorem dX5_begin_33 : decode cX5_begin 33 = .ok (.iconst 4, 1) := by decide +kernel
theorem dX5_begin_34 : decode cX5_begin 34 = .ok (.iload_n 1, 1) := by decide +kernel
theorem dX5_begin_35 : decode cX5_begin 35 = .ok (.imul, 1) := by decide +kernel
theorem dX5_begin_36 : decode cX5_begin 36 = .ok (.iconst 1, 1) := by decide +kernel
theorem dX5_begin_37 : decode cX5_begin 37 = .ok (.iadd, 1) := by decide +kernel
theorem dX5_begin_38 : decode cX5_begin 38 = .ok (.iaload, 1) := by decide +kernel
theorem dX5_begin_39 : decode cX5_begin 39 = .ok (.iastore, 1) := by decide +kernel
theorem dX5_begin_40 : decode cX5_begin 40 = .ok (.iinc 1 1, 3) := by decide +kernel
theorem dX5_begin_43 : decode cX5_begin 43 = .ok (.goto (-41), 3) := by decide +kernel
theorem dX5_begin_46 : decode cX5_begin 46 = .ok (.return_, 1) := by decide +kernel
theorem dX5_takeRow_0 : decode cX5_takeRow 0 = .ok (.aload_n 0, 1) := by decide +kernel
theorem dX5_takeRow_1 : decode cX5_takeRow 1 = .ok (.aload_n 0, 1) := by decide +kernel
theorem dX5_takeRow_2 : decode cX5_takeRow 2 = .ok (.getfield 102, 3) := by decide +kernel
theorem dX5_takeRow_5 : decode cX5_takeRow 5 = .ok (.putfield 164, 3) := by decide +kernel
theorem dX5_takeRow_8 : decode cX5_takeRow 8 = .ok (.iconst 0, 1) := by decide +kernel
theorem dX5_takeRow_9 : decode cX5_takeRow 9 = .ok (.istore_n 1, 1) := by decide +kernel
theorem dX5_takeRow_10 : decode cX5_takeRow 10 = .ok (.iload_n 1, 1) := by decide +kernel
theorem dX5_takeRow_11 : decode cX5_takeRow 11 = .ok (.aload_n 0, 1) := by decide +kernel
theorem dX5_takeRow_12 : decode cX5_takeRow 12 = .ok (.getfield 102, 3) := by decide +kernel
theorem dX5_takeRow_15 : decode cX5_takeRow 15 = .ok (.if_icmp .ge 21, 3) := by decide +kernel
theorem dX5_takeRow_18 : decode cX5_takeRow 18 = .ok (.aload_n 0, 1) := by decide +kernel
theorem dX5_takeRow_19 : decode cX5_takeRow 19 = .ok (.getfield 31, 3) := by decide +kernel
theorem dX5_takeRow_22 : decode cX5_takeRow 22 = .ok (.iload_n 1, 1) := by decide +kernel
theorem dX5_takeRow_23 : decode cX5_takeRow 23 = .ok (.aload_n 0, 1) := by decide +kernel
theorem dX5_takeRow_24 : decode cX5_takeRow 24 = .ok (.getfield 22, 3) := by decide +kernel
theorem dX5_takeRow_27 : decode cX5_takeRow 27 = .ok (.iload_n 1, 1) := by decide +kernel
theorem dX5_takeRow_28 : decode cX5_takeRow 28 = .ok (.iaload, 1) := by decide +kernel
theorem dX5_takeRow_29 : decode cX5_takeRow 29 = .ok (.iastore, 1) := by decide +kernel
theorem dX5_takeRow_30 : decode cX5_takeRow 30 = .ok (.iinc 1 1, 3) := by decide +kernel
theorem dX5_takeRow_33 : decode cX5_takeRow 33 = .ok (.goto (-23), 3) := by decide +kernel
theorem dX5_takeRow_36 : decode cX5_takeRow 36 = .ok (.return_, 1) := by decide +kernel
theorem dX5_passes_0 : decode cX5_passes 0 = .ok (.aload_n 0, 1) := by decide +kernel
theorem dX5_passes_1 : decode cX5_passes 1 = .ok (.getfield 34, 3) := by decide +kernel
theorem dX5_passes_4 : decode cX5_passes 4 = .ok (.iload_n 1, 1) := by decide +kernel
theorem dX5_passes_5 : decode cX5_passes 5 = .ok (.iaload, 1) := by decide +kernel
theorem dX5_passes_6 : decode cX5_passes 6 = .ok (.iconst 3, 1) := by decide +kernel
theorem dX5_passes_7 : decode cX5_passes 7 = .ok (.if_icmp .eq 13, 3) := by decide +kernel
theorem dX5_passes_10 : decode cX5_passes 10 = .ok (.iload_n 2, 1) := by decide +kernel
theorem dX5_passes_11 : decode cX5_passes 11 = .ok (.aload_n 0, 1) := by decide +kernel
theorem dX5_passes_12 : decode cX5_passes 12 = .ok (.getfield 37, 3) := by decide +kernel
theorem dX5_passes_15 : decode cX5_passes 15 = .ok (.iload_n 1, 1) := by decide +kernel
theorem dX5_passes_16 : decode cX5_passes 16 = .ok (.iaload, 1) := by decide +kernel
theorem dX5_passes_17 : decode cX5_passes 17 = .ok (.if_icmp .gt 7, 3) := by decide +kernel
theorem dX5_passes_20 : decode cX5_passes 20 = .ok (.iconst 1, 1) := by decide +kernel
theorem dX5_passes_21 : decode cX5_passes 21 = .ok (.goto 4, 3) := by decide +kernel
theorem dX5_passes_24 : decode cX5_passes 24 = .ok (.iconst 0, 1) := by decide +kernel
theorem dX5_passes_25 : decode cX5_passes 25 = .ok (.ireturn, 1) := by decide +kernel
theorem dX5_shakeOnce_0 : decode cX5_shakeOnce 0 = .ok (.aload_n 0, 1) := by decide +kernel
theorem dX5_shakeOnce_1 : decode cX5_shakeOnce 1 = .ok (.iconst 0, 1) := by decide +kernel
theorem dX5_shakeOnce_2 : decode cX5_shakeOnce 2 = .ok (.putfield 167, 3) := by decide +kernel
theorem dX5_shakeOnce_5 : decode cX5_shakeOnce 5 = .ok (.aload_n 0, 1) := by decide +kernel
theorem dX5_shakeOnce_6 : decode cX5_shakeOnce 6 = .ok (.iconst 0, 1) := by decide +kernel
theorem dX5_shakeOnce_7 : decode cX5_shakeOnce 7 = .ok (.putfield 170, 3) := by decide +kernel
theorem dX5_shakeOnce_10 : decode cX5_shakeOnce 10 = .ok (.iconst 0, 1) := by decide +kernel
theorem dX5_shakeOnce_11 : decode cX5_shakeOnce 11 = .ok (.istore_n 1, 1) := by decide +kernel
theorem dX5_shakeOnce_12 : decode cX5_shakeOnce 12 = .ok (.iload_n 1, 1) := by decide +kernel
theorem dX5_shakeOnce_13 : decode cX5_shakeOnce 13 = .ok (.aload_n 0, 1) := by decide +kernel
theorem dX5_shakeOnce_14 : decode cX5_shakeOnce 14 = .ok (.getfield 64, 3) := by decide +kernel
theorem dX5_shakeOnce_17 : decode cX5_shakeOnce 17 = .ok (.if_icmp .ge 33, 3) := by decide +kernel
theorem dX5_shakeOnce_20 : decode cX5_shakeOnce 20 = .ok (.aload_n 0, 1) := by decide +kernel
theorem dX5_shakeOnce_21 : decode cX5_shakeOnce 21 = .ok (.getfield 40, 3) := by decide +kernel
theorem dX5_shakeOnce_24 : decode cX5_shakeOnce 24 = .ok (.iload_n 1, 1) := by decide +kernel
theorem dX5_shakeOnce_25 : decode cX5_shakeOnce 25 = .ok (.aload_n 0, 1) := by decide +kernel
theorem dX5_shakeOnce_26 : decode cX5_shakeOnce 26 = .ok (.getfield 13, 3) := by decide +kernel
theorem dX5_shakeOnce_29 : decode cX5_shakeOnce 29 = .ok (.iload_n 1, 1) := by decide +kernel
theorem dX5_shakeOnce_30 : decode cX5_shakeOnce 30 = .ok (.iaload, 1) := by decide +kernel
theorem dX5_shakeOnce_31 : decode cX5_shakeOnce 31 = .ok (.ifCond .le 10, 3) := by decide +kernel
theorem dX5_shakeOnce_34 : decode cX5_shakeOnce 34 = .ok (.aload_n 0, 1) := by decide +kernel
theorem dX5_shakeOnce_35 : decode cX5_shakeOnce 35 = .ok (.getfield 164, 3) := by decide +kernel
theorem dX5_shakeOnce_38 : decode cX5_shakeOnce 38 = .ok (.goto 5, 3) := by decide +kernel
theorem dX5_shakeOnce_41 : decode cX5_shakeOnce 41 = .ok (.bipush (-4), 2) := by decide +kernel
theorem dX5_shakeOnce_43 : decode cX5_shakeOnce 43 = .ok (.iastore, 1) := by decide +kernel
theorem dX5_shakeOnce_44 : decode cX5_shakeOnce 44 = .ok (.iinc 1 1, 3) := by decide +kernel
theorem dX5_shakeOnce_47 : decode cX5_shakeOnce 47 = .ok (.goto (-35), 3) := by decide +kernel
theorem dX5_shakeOnce_50 : decode cX5_shakeOnce 50 = .ok (.iconst 0, 1) := by decide +kernel
theorem dX5_shakeOnce_51 : decode cX5_shakeOnce 51 = .ok (.istore_n 1, 1) := by decide +kernel
theorem dX5_shakeOnce_52 : decode cX5_shakeOnce 52 = .ok (.iload_n 1, 1) := by decide +kernel
theorem dX5_shakeOnce_53 : decode cX5_shakeOnce 53 = .ok (.aload_n 0, 1) := by decide +kernel
theorem dX5_shakeOnce_54 : decode cX5_shakeOnce 54 = .ok (.getfield 164, 3) := by decide +kernel
theorem dX5_shakeOnce_57 : decode cX5_shakeOnce 57 = .ok (.if_icmp .ge 254, 3) := by decide +kernel
theorem dX5_shakeOnce_60 : decode cX5_shakeOnce 60 = .ok (.aload_n 0, 1) := by decide +kernel
theorem dX5_shakeOnce_61 : decode cX5_shakeOnce 61 = .ok (.getfield 31, 3) := by decide +kernel
theorem dX5_shakeOnce_64 : decode cX5_shakeOnce 64 = .ok (.iload_n 1, 1) := by decide +kernel
theorem dX5_shakeOnce_65 : decode cX5_shakeOnce 65 = .ok (.iaload, 1) := by decide +kernel
theorem dX5_shakeOnce_66 : decode cX5_shakeOnce 66 = .ok (.istore_n 2, 1) := by decide +kernel
theorem dX5_shakeOnce_67 : decode cX5_shakeOnce 67 = .ok (.iconst 0, 1) := by decide +kernel
theorem dX5_shakeOnce_68 : decode cX5_shakeOnce 68 = .ok (.istore_n 3, 1) := by decide +kernel
theorem dX5_shakeOnce_69 : decode cX5_shakeOnce 69 = .ok (.iconst 0, 1) := by decide +kernel
theorem dX5_shakeOnce_70 : decode cX5_shakeOnce 70 = .ok (.istore 4, 2) := by decide +kernel
theorem dX5_shakeOnce_72 : decode cX5_shakeOnce 72 = .ok (.iconst 0, 1) := by decide +kernel
theorem dX5_shakeOnce_73 : decode cX5_shakeOnce 73 = .ok (.istore 5, 2) := by decide +kernel
theorem dX5_shakeOnce_75 : decode cX5_shakeOnce 75 = .ok (.iload 5, 2) := by decide +kernel
theorem dX5_shakeOnce_77 : decode cX5_shakeOnce 77 = .ok (.aload_n 0, 1) := by decide +kernel
theorem dX5_shakeOnce_78 : decode cX5_shakeOnce 78 = .ok (.getfield 64, 3) := by decide +kernel
theorem dX5_shakeOnce_81 : decode cX5_shakeOnce 81 = .ok (.if_icmp .ge 96, 3) := by decide +kernel
theorem dX5_shakeOnce_84 : decode cX5_shakeOnce 84 = .ok (.aload_n 0, 1) := by decide +kernel
theorem dX5_shakeOnce_85 : decode cX5_shakeOnce 85 = .ok (.getfield 40, 3) := by decide +kernel
theorem dX5_shakeOnce_88 : decode cX5_shakeOnce 88 = .ok (.iload 5, 2) := by decide +kernel
theorem dX5_shakeOnce_90 : decode cX5_shakeOnce 90 = .ok (.iaload, 1) := by decide +kernel
theorem dX5_shakeOnce_91 : decode cX5_shakeOnce 91 = .ok (.aload_n 0, 1) := by decide +kernel
theorem dX5_shakeOnce_92 : decode cX5_shakeOnce 92 = .ok (.getfield 164, 3) := by decide +kernel
theorem dX5_shakeOnce_95 : decode cX5_shakeOnce 95 = .ok (.if_icmp .ne 7, 3) := by decide +kernel
theorem dX5_shakeOnce_98 : decode cX5_shakeOnce 98 = .ok (.iconst 1, 1) := by decide +kernel
theorem dX5_shakeOnce_99 : decode cX5_shakeOnce 99 = .ok (.goto 4, 3) := by decide +kernel
theorem dX5_shakeOnce_102 : decode cX5_shakeOnce 102 = .ok (.iconst 0, 1) := by decide +kernel
theorem dX5_shakeOnce_103 : decode cX5_shakeOnce 103 = .ok (.istore 6, 2) := by decide +kernel
theorem dX5_shakeOnce_105 : decode cX5_shakeOnce 105 = .ok (.iload_n 3, 1) := by decide +kernel
theorem dX5_shakeOnce_106 : decode cX5_shakeOnce 106 = .ok (.iload 6, 2) := by decide +kernel
theorem dX5_shakeOnce_108 : decode cX5_shakeOnce 108 = .ok (.ifCond .eq 28, 3) := by decide +kernel
theorem dX5_shakeOnce_111 : decode cX5_shakeOnce 111 = .ok (.aload_n 0, 1) := by decide +kernel
theorem dX5_shakeOnce_112 : decode cX5_shakeOnce 112 = .ok (.iload_n 2, 1) := by decide +kernel
theorem dX5_shakeOnce_113 : decode cX5_shakeOnce 113 = .ok (.aload_n 0, 1) := by decide +kernel
theorem dX5_shakeOnce_114 : decode cX5_shakeOnce 114 = .ok (.getfield 7, 3) := by decide +kernel
theorem dX5_shakeOnce_117 : decode cX5_shakeOnce 117 = .ok (.iload 5, 2) := by decide +kernel
theorem dX5_shakeOnce_119 : decode cX5_shakeOnce 119 = .ok (.iaload, 1) := by decide +kernel
theorem dX5_shakeOnce_120 : decode cX5_shakeOnce 120 = .ok (.invokevirtual 173, 3) := by decide +kernel
theorem dX5_shakeOnce_123 : decode cX5_shakeOnce 123 = .ok (.ifCond .ne 13, 3) := by decide +kernel
theorem dX5_shakeOnce_126 : decode cX5_shakeOnce 126 = .ok (.aload_n 0, 1) := by decide +kernel
theorem dX5_shakeOnce_127 : decode cX5_shakeOnce 127 = .ok (.getfield 13, 3) := by decide +kernel
theorem dX5_shakeOnce_130 : decode cX5_shakeOnce 130 = .ok (.iload 5, 2) := by decide +kernel
theorem dX5_shakeOnce_132 : decode cX5_shakeOnce 132 = .ok (.iaload, 1) := by decide +kernel
theorem dX5_shakeOnce_133 : decode cX5_shakeOnce 133 = .ok (.goto 4, 3) := by decide +kernel
theorem dX5_shakeOnce_136 : decode cX5_shakeOnce 136 = .ok (.iconst 0, 1) := by decide +kernel
theorem dX5_shakeOnce_137 : decode cX5_shakeOnce 137 = .ok (.iadd, 1) := by decide +kernel
theorem dX5_shakeOnce_138 : decode cX5_shakeOnce 138 = .ok (.istore_n 3, 1) := by decide +kernel
theorem dX5_shakeOnce_139 : decode cX5_shakeOnce 139 = .ok (.iload 4, 2) := by decide +kernel
theorem dX5_shakeOnce_141 : decode cX5_shakeOnce 141 = .ok (.ifCond .ne 23, 3) := by decide +kernel
theorem dX5_shakeOnce_144 : decode cX5_shakeOnce 144 = .ok (.iload 6, 2) := by decide +kernel
theorem dX5_shakeOnce_146 : decode cX5_shakeOnce 146 = .ok (.ifCond .eq 22, 3) := by decide +kernel
theorem dX5_shakeOnce_149 : decode cX5_shakeOnce 149 = .ok (.aload_n 0, 1) := by decide +kernel
theorem dX5_shakeOnce_150 : decode cX5_shakeOnce 150 = .ok (.iload_n 2, 1) := by decide +kernel
theorem dX5_shakeOnce_151 : decode cX5_shakeOnce 151 = .ok (.aload_n 0, 1) := by decide +kernel
theorem dX5_shakeOnce_152 : decode cX5_shakeOnce 152 = .ok (.getfield 7, 3) := by decide +kernel
theorem dX5_shakeOnce_155 : decode cX5_shakeOnce 155 = .ok (.iload 5, 2) := by decide +kernel
theorem dX5_shakeOnce_157 : decode cX5_shakeOnce 157 = .ok (.iaload, 1) := by decide +kernel
theorem dX5_shakeOnce_158 : decode cX5_shakeOnce 158 = .ok (.invokevirtual 173, 3) := by decide +kernel
theorem dX5_shakeOnce_161 : decode cX5_shakeOnce 161 = .ok (.ifCond .eq 7, 3) := by decide +kernel
theorem dX5_shakeOnce_164 : decode cX5_shakeOnce 164 = .ok (.iconst 1, 1) := by decide +kernel
theorem dX5_shakeOnce_165 : decode cX5_shakeOnce 165 = .ok (.goto 4, 3) := by decide +kernel
theorem dX5_shakeOnce_168 : decode cX5_shakeOnce 168 = .ok (.iconst 0, 1) := by decide +kernel
theorem dX5_shakeOnce_169 : decode cX5_shakeOnce 169 = .ok (.istore 4, 2) := by decide +kernel
theorem dX5_shakeOnce_171 : decode cX5_shakeOnce 171 = .ok (.iinc 5 1, 3) := by decide +kernel
theorem dX5_shakeOnce_174 : decode cX5_shakeOnce 174 = .ok (.goto (-99), 3) := by decide +kernel
theorem dX5_shakeOnce_177 : decode cX5_shakeOnce 177 = .ok (.iload_n 3, 1) := by decide +kernel
theorem dX5_shakeOnce_178 : decode cX5_shakeOnce 178 = .ok (.aload_n 0, 1) := by decide +kernel
theorem dX5_shakeOnce_179 : decode cX5_shakeOnce 179 = .ok (.getfield 19, 3) := by decide +kernel
theorem dX5_shakeOnce_182 : decode cX5_shakeOnce 182 = .ok (.iconst 4, 1) := by decide +kernel
theorem dX5_shakeOnce_183 : decode cX5_shakeOnce 183 = .ok (.iload_n 2, 1) := by decide +kernel
theorem dX5_shakeOnce_184 : decode cX5_shakeOnce 184 = .ok (.imul, 1) := by decide +kernel
theorem dX5_shakeOnce_185 : decode cX5_shakeOnce 185 = .ok (.iconst 2, 1) := by decide +kernel
theorem dX5_shakeOnce_186 : decode cX5_shakeOnce 186 = .ok (.iadd, 1) := by decide +kernel
theorem dX5_shakeOnce_187 : decode cX5_shakeOnce 187 = .ok (.iaload, 1) := by decide +kernel
theorem dX5_shakeOnce_188 : decode cX5_shakeOnce 188 = .ok (.if_icmp .le 7, 3) := by decide +kernel
theorem dX5_shakeOnce_191 : decode cX5_shakeOnce 191 = .ok (.iconst 1, 1) := by decide +kernel
theorem dX5_shakeOnce_192 : decode cX5_shakeOnce 192 = .ok (.goto 4, 3) := by decide +kernel
theorem dX5_shakeOnce_195 : decode cX5_shakeOnce 195 = .ok (.iconst 0, 1) := by decide +kernel
theorem dX5_shakeOnce_196 : decode cX5_shakeOnce 196 = .ok (.istore 5, 2) := by decide +kernel
theorem dX5_shakeOnce_198 : decode cX5_shakeOnce 198 = .ok (.iconst 0, 1) := by decide +kernel
theorem dX5_shakeOnce_199 : decode cX5_shakeOnce 199 = .ok (.istore 6, 2) := by decide +kernel
theorem dX5_shakeOnce_201 : decode cX5_shakeOnce 201 = .ok (.iload 6, 2) := by decide +kernel
theorem dX5_shakeOnce_203 : decode cX5_shakeOnce 203 = .ok (.aload_n 0, 1) := by decide +kernel
theorem dX5_shakeOnce_204 : decode cX5_shakeOnce 204 = .ok (.getfield 64, 3) := by decide +kernel
theorem dX5_shakeOnce_207 : decode cX5_shakeOnce 207 = .ok (.if_icmp .ge 51, 3) := by decide +kernel
theorem dX5_shakeOnce_210 : decode cX5_shakeOnce 210 = .ok (.aload_n 0, 1) := by decide +kernel
theorem dX5_shakeOnce_211 : decode cX5_shakeOnce 211 = .ok (.getfield 40, 3) := by decide +kernel
theorem dX5_shakeOnce_214 : decode cX5_shakeOnce 214 = .ok (.iload 6, 2) := by decide +kernel
theorem dX5_shakeOnce_216 : decode cX5_shakeOnce 216 = .ok (.iaload, 1) := by decide +kernel
theorem dX5_shakeOnce_217 : decode cX5_shakeOnce 217 = .ok (.aload_n 0, 1) := by decide +kernel
theorem dX5_shakeOnce_218 : decode cX5_shakeOnce 218 = .ok (.getfield 164, 3) := by decide +kernel
theorem dX5_shakeOnce_221 : decode cX5_shakeOnce 221 = .ok (.if_icmp .ne 31, 3) := by decide +kernel
theorem dX5_shakeOnce_224 : decode cX5_shakeOnce 224 = .ok (.iload 5, 2) := by decide +kernel
theorem dX5_shakeOnce_226 : decode cX5_shakeOnce 226 = .ok (.ifCond .ne 18, 3) := by decide +kernel
theorem dX5_shakeOnce_229 : decode cX5_shakeOnce 229 = .ok (.aload_n 0, 1) := by decide +kernel
theorem dX5_shakeOnce_230 : decode cX5_shakeOnce 230 = .ok (.iload_n 2, 1) := by decide +kernel
theorem dX5_shakeOnce_231 : decode cX5_shakeOnce 231 = .ok (.aload_n 0, 1) := by decide +kernel
theorem dX5_shakeOnce_232 : decode cX5_shakeOnce 232 = .ok (.getfield 7, 3) := by decide +kernel
theorem dX5_shakeOnce_235 : decode cX5_shakeOnce 235 = .ok (.iload 6, 2) := by decide +kernel
theorem dX5_shakeOnce_237 : decode cX5_shakeOnce 237 = .ok (.iaload, 1) := by decide +kernel
theorem dX5_shakeOnce_238 : decode cX5_shakeOnce 238 = .ok (.invokevirtual 173, 3) := by decide +kernel
theorem dX5_shakeOnce_241 : decode cX5_shakeOnce 241 = .ok (.ifCond .ne 11, 3) := by decide +kernel
theorem dX5_shakeOnce_244 : decode cX5_shakeOnce 244 = .ok (.aload_n 0, 1) := by decide +kernel
theorem dX5_shakeOnce_245 : decode cX5_shakeOnce 245 = .ok (.getfield 40, 3) := by decide +kernel
theorem dX5_shakeOnce_248 : decode cX5_shakeOnce 248 = .ok (.iload 6, 2) := by decide +kernel
theorem dX5_shakeOnce_250 : decode cX5_shakeOnce 250 = .ok (.iload_n 1, 1) := by decide +kernel
theorem dX5_shakeOnce_251 : decode cX5_shakeOnce 251 = .ok (.iastore, 1) := by decide +kernel
theorem dX5_shakeOnce_252 : decode cX5_shakeOnce 252 = .ok (.iinc 6 1, 3) := by decide +kernel
theorem dX5_shakeOnce_255 : decode cX5_shakeOnce 255 = .ok (.goto (-54), 3) := by decide +kernel
theorem dX5_shakeOnce_258 : decode cX5_shakeOnce 258 = .ok (.aload_n 0, 1) := by decide +kernel
theorem dX5_shakeOnce_259 : decode cX5_shakeOnce 259 = .ok (.dup, 1) := by decide +kernel
theorem dX5_shakeOnce_260 : decode cX5_shakeOnce 260 = .ok (.getfield 167, 3) := by decide +kernel
theorem dX5_shakeOnce_263 : decode cX5_shakeOnce 263 = .ok (.iload 5, 2) := by decide +kernel
theorem dX5_shakeOnce_265 : decode cX5_shakeOnce 265 = .ok (.ifCond .eq 9, 3) := by decide +kernel
theorem dX5_shakeOnce_268 : decode cX5_shakeOnce 268 = .ok (.iconst 1, 1) := by decide +kernel
theorem dX5_shakeOnce_269 : decode cX5_shakeOnce 269 = .ok (.iload_n 1, 1) := by decide +kernel
theorem dX5_shakeOnce_270 : decode cX5_shakeOnce 270 = .ok (.ishl, 1) := by decide +kernel
theorem dX5_shakeOnce_271 : decode cX5_shakeOnce 271 = .ok (.goto 4, 3) := by decide +kernel
theorem dX5_shakeOnce_274 : decode cX5_shakeOnce 274 = .ok (.iconst 0, 1) := by decide +kernel
theorem dX5_shakeOnce_275 : decode cX5_shakeOnce 275 = .ok (.ior, 1) := by decide +kernel
theorem dX5_shakeOnce_276 : decode cX5_shakeOnce 276 = .ok (.putfield 167, 3) := by decide +kernel
theorem dX5_shakeOnce_279 : decode cX5_shakeOnce 279 = .ok (.aload_n 0, 1) := by decide +kernel
theorem dX5_shakeOnce_280 : decode cX5_shakeOnce 280 = .ok (.dup, 1) := by decide +kernel
theorem dX5_shakeOnce_281 : decode cX5_shakeOnce 281 = .ok (.getfield 170, 3) := by decide +kernel
theorem dX5_shakeOnce_284 : decode cX5_shakeOnce 284 = .ok (.iload 4, 2) := by decide +kernel
theorem dX5_shakeOnce_286 : decode cX5_shakeOnce 286 = .ok (.ifCond .eq 14, 3) := by decide +kernel
theorem dX5_shakeOnce_289 : decode cX5_shakeOnce 289 = .ok (.iload 5, 2) := by decide +kernel
theorem dX5_shakeOnce_291 : decode cX5_shakeOnce 291 = .ok (.ifCond .ne 9, 3) := by decide +kernel
theorem dX5_shakeOnce_294 : decode cX5_shakeOnce 294 = .ok (.iconst 1, 1) := by decide +kernel
theorem dX5_shakeOnce_295 : decode cX5_shakeOnce 295 = .ok (.iload_n 1, 1) := by decide +kernel
theorem dX5_shakeOnce_296 : decode cX5_shakeOnce 296 = .ok (.ishl, 1) := by decide +kernel
theorem dX5_shakeOnce_297 : decode cX5_shakeOnce 297 = .ok (.goto 4, 3) := by decide +kernel
theorem dX5_shakeOnce_300 : decode cX5_shakeOnce 300 = .ok (.iconst 0, 1) := by decide +kernel
theorem dX5_shakeOnce_301 : decode cX5_shakeOnce 301 = .ok (.ior, 1) := by decide +kernel
theorem dX5_shakeOnce_302 : decode cX5_shakeOnce 302 = .ok (.putfield 170, 3) := by decide +kernel
theorem dX5_shakeOnce_305 : decode cX5_shakeOnce 305 = .ok (.iinc 1 1, 3) := by decide +kernel
theorem dX5_shakeOnce_308 : decode cX5_shakeOnce 308 = .ok (.goto (-256), 3) := by decide +kernel
theorem dX5_shakeOnce_311 : decode cX5_shakeOnce 311 = .ok (.return_, 1) := by decide +kernel
theorem dX5_wearOut_0 : decode cX5_wearOut 0 = .ok (.iconst 0, 1) := by decide +kernel
theorem dX5_wearOut_1 : decode cX5_wearOut 1 = .ok (.istore_n 1, 1) := by decide +kernel
theorem dX5_wearOut_2 : decode cX5_wearOut 2 = .ok (.iload_n 1, 1) := by decide +kernel
theorem dX5_wearOut_3 : decode cX5_wearOut 3 = .ok (.aload_n 0, 1) := by decide +kernel
theorem dX5_wearOut_4 : decode cX5_wearOut 4 = .ok (.getfield 164, 3) := by decide +kernel
theorem dX5_wearOut_7 : decode cX5_wearOut 7 = .ok (.if_icmp .ge 109, 3) := by decide +kernel
theorem dX5_wearOut_10 : decode cX5_wearOut 10 = .ok (.aload_n 0, 1) := by decide +kernel
theorem dX5_wearOut_11 : decode cX5_wearOut 11 = .ok (.getfield 31, 3) := by decide +kernel
theorem dX5_wearOut_14 : decode cX5_wearOut 14 = .ok (.iload_n 1, 1) := by decide +kernel
theorem dX5_wearOut_15 : decode cX5_wearOut 15 = .ok (.iaload, 1) := by decide +kernel
theorem dX5_wearOut_16 : decode cX5_wearOut 16 = .ok (.istore_n 2, 1) := by decide +kernel
theorem dX5_wearOut_17 : decode cX5_wearOut 17 = .ok (.aload_n 0, 1) := by decide +kernel
theorem dX5_wearOut_18 : decode cX5_wearOut 18 = .ok (.getfield 34, 3) := by decide +kernel
theorem dX5_wearOut_21 : decode cX5_wearOut 21 = .ok (.iload_n 2, 1) := by decide +kernel
theorem dX5_wearOut_22 : decode cX5_wearOut 22 = .ok (.iaload, 1) := by decide +kernel
theorem dX5_wearOut_23 : decode cX5_wearOut 23 = .ok (.iconst 1, 1) := by decide +kernel
theorem dX5_wearOut_24 : decode cX5_wearOut 24 = .ok (.if_icmp .ne 7, 3) := by decide +kernel
theorem dX5_wearOut_27 : decode cX5_wearOut 27 = .ok (.iconst 0, 1) := by decide +kernel
theorem dX5_wearOut_28 : decode cX5_wearOut 28 = .ok (.goto 38, 3) := by decide +kernel
theorem dX5_wearOut_31 : decode cX5_wearOut 31 = .ok (.aload_n 0, 1) := by decide +kernel
theorem dX5_wearOut_32 : decode cX5_wearOut 32 = .ok (.getfield 34, 3) := by decide +kernel
theorem dX5_wearOut_35 : decode cX5_wearOut 35 = .ok (.iload_n 2, 1) := by decide +kernel
theorem dX5_wearOut_36 : decode cX5_wearOut 36 = .ok (.iaload, 1) := by decide +kernel
theorem dX5_wearOut_37 : decode cX5_wearOut 37 = .ok (.iconst 2, 1) := by decide +kernel
theorem dX5_wearOut_38 : decode cX5_wearOut 38 = .ok (.if_icmp .lt 18, 3) := by decide +kernel
theorem dX5_wearOut_41 : decode cX5_wearOut 41 = .ok (.iconst 2, 1) := by decide +kernel
theorem dX5_wearOut_42 : decode cX5_wearOut 42 = .ok (.aload_n 0, 1) := by decide +kernel
theorem dX5_wearOut_43 : decode cX5_wearOut 43 = .ok (.getfield 19, 3) := by decide +kernel
theorem dX5_wearOut_46 : decode cX5_wearOut 46 = .ok (.iconst 4, 1) := by decide +kernel
theorem dX5_wearOut_47 : decode cX5_wearOut 47 = .ok (.iload_n 2, 1) := by decide +kernel
theorem dX5_wearOut_48 : decode cX5_wearOut 48 = .ok (.imul, 1) := by decide +kernel
theorem dX5_wearOut_49 : decode cX5_wearOut 49 = .ok (.iconst 3, 1) := by decide +kernel
theorem dX5_wearOut_50 : decode cX5_wearOut 50 = .ok (.iadd, 1) := by decide +kernel
theorem dX5_wearOut_51 : decode cX5_wearOut 51 = .ok (.iaload, 1) := by decide +kernel
theorem dX5_wearOut_52 : decode cX5_wearOut 52 = .ok (.imul, 1) := by decide +kernel
theorem dX5_wearOut_53 : decode cX5_wearOut 53 = .ok (.goto 13, 3) := by decide +kernel
theorem dX5_wearOut_56 : decode cX5_wearOut 56 = .ok (.aload_n 0, 1) := by decide +kernel
theorem dX5_wearOut_57 : decode cX5_wearOut 57 = .ok (.getfield 19, 3) := by decide +kernel
theorem dX5_wearOut_60 : decode cX5_wearOut 60 = .ok (.iconst 4, 1) := by decide +kernel
theorem dX5_wearOut_61 : decode cX5_wearOut 61 = .ok (.iload_n 2, 1) := by decide +kernel
theorem dX5_wearOut_62 : decode cX5_wearOut 62 = .ok (.imul, 1) := by decide +kernel
theorem dX5_wearOut_63 : decode cX5_wearOut 63 = .ok (.iconst 3, 1) := by decide +kernel
theorem dX5_wearOut_64 : decode cX5_wearOut 64 = .ok (.iadd, 1) := by decide +kernel
theorem dX5_wearOut_65 : decode cX5_wearOut 65 = .ok (.iaload, 1) := by decide +kernel
theorem dX5_wearOut_66 : decode cX5_wearOut 66 = .ok (.istore_n 3, 1) := by decide +kernel
theorem dX5_wearOut_67 : decode cX5_wearOut 67 = .ok (.aload_n 0, 1) := by decide +kernel
theorem dX5_wearOut_68 : decode cX5_wearOut 68 = .ok (.getfield 170, 3) := by decide +kernel
theorem dX5_wearOut_71 : decode cX5_wearOut 71 = .ok (.iload_n 1, 1) := by decide +kernel
theorem dX5_wearOut_72 : decode cX5_wearOut 72 = .ok (.invokestatic 156, 3) := by decide +kernel
theorem dX5_wearOut_75 : decode cX5_wearOut 75 = .ok (.ifCond .eq 35, 3) := by decide +kernel
theorem dX5_wearOut_78 : decode cX5_wearOut 78 = .ok (.aload_n 0, 1) := by decide +kernel
theorem dX5_wearOut_79 : decode cX5_wearOut 79 = .ok (.getfield 37, 3) := by decide +kernel
theorem dX5_wearOut_82 : decode cX5_wearOut 82 = .ok (.iload_n 2, 1) := by decide +kernel
theorem dX5_wearOut_83 : decode cX5_wearOut 83 = .ok (.aload_n 0, 1) := by decide +kernel
theorem dX5_wearOut_84 : decode cX5_wearOut 84 = .ok (.getfield 37, 3) := by decide +kernel
theorem dX5_wearOut_87 : decode cX5_wearOut 87 = .ok (.iload_n 2, 1) := by decide +kernel
theorem dX5_wearOut_88 : decode cX5_wearOut 88 = .ok (.iaload, 1) := by decide +kernel
theorem dX5_wearOut_89 : decode cX5_wearOut 89 = .ok (.iload_n 3, 1) := by decide +kernel
theorem dX5_wearOut_90 : decode cX5_wearOut 90 = .ok (.iadd, 1) := by decide +kernel
theorem dX5_wearOut_91 : decode cX5_wearOut 91 = .ok (.bipush 60, 2) := by decide +kernel
theorem dX5_wearOut_93 : decode cX5_wearOut 93 = .ok (.if_icmp .le 8, 3) := by decide +kernel
theorem dX5_wearOut_96 : decode cX5_wearOut 96 = .ok (.bipush 60, 2) := by decide +kernel
theorem dX5_wearOut_98 : decode cX5_wearOut 98 = .ok (.goto 11, 3) := by decide +kernel
theorem dX5_wearOut_101 : decode cX5_wearOut 101 = .ok (.aload_n 0, 1) := by decide +kernel
theorem dX5_wearOut_102 : decode cX5_wearOut 102 = .ok (.getfield 37, 3) := by decide +kernel
theorem dX5_wearOut_105 : decode cX5_wearOut 105 = .ok (.iload_n 2, 1) := by decide +kernel
theorem dX5_wearOut_106 : decode cX5_wearOut 106 = .ok (.iaload, 1) := by decide +kernel
theorem dX5_wearOut_107 : decode cX5_wearOut 107 = .ok (.iload_n 3, 1) := by decide +kernel
theorem dX5_wearOut_108 : decode cX5_wearOut 108 = .ok (.iadd, 1) := by decide +kernel
theorem dX5_wearOut_109 : decode cX5_wearOut 109 = .ok (.iastore, 1) := by decide +kernel
theorem dX5_wearOut_110 : decode cX5_wearOut 110 = .ok (.iinc 1 1, 3) := by decide +kernel
theorem dX5_wearOut_113 : decode cX5_wearOut 113 = .ok (.goto (-111), 3) := by decide +kernel
theorem dX5_wearOut_116 : decode cX5_wearOut 116 = .ok (.return_, 1) := by decide +kernel
theorem dX5_grainsIn_0 : decode cX5_grainsIn 0 = .ok (.iconst 0, 1) := by decide +kernel
theorem dX5_grainsIn_1 : decode cX5_grainsIn 1 = .ok (.istore_n 2, 1) := by decide +kernel
theorem dX5_grainsIn_2 : decode cX5_grainsIn 2 = .ok (.iconst 0, 1) := by decide +kernel
theorem dX5_grainsIn_3 : decode cX5_grainsIn 3 = .ok (.istore_n 3, 1) := by decide +kernel
theorem dX5_grainsIn_4 : decode cX5_grainsIn 4 = .ok (.iload_n 3, 1) := by decide +kernel
theorem dX5_grainsIn_5 : decode cX5_grainsIn 5 = .ok (.aload_n 0, 1) := by decide +kernel
theorem dX5_grainsIn_6 : decode cX5_grainsIn 6 = .ok (.getfield 64, 3) := by decide +kernel
theorem dX5_grainsIn_9 : decode cX5_grainsIn 9 = .ok (.if_icmp .ge 29, 3) := by decide +kernel
theorem dX5_grainsIn_12 : decode cX5_grainsIn 12 = .ok (.iload_n 2, 1) := by decide +kernel
theorem dX5_grainsIn_13 : decode cX5_grainsIn 13 = .ok (.aload_n 0, 1) := by decide +kernel
theorem dX5_grainsIn_14 : decode cX5_grainsIn 14 = .ok (.getfield 40, 3) := by decide +kernel
theorem dX5_grainsIn_17 : decode cX5_grainsIn 17 = .ok (.iload_n 3, 1) := by decide +kernel
theorem dX5_grainsIn_18 : decode cX5_grainsIn 18 = .ok (.iaload, 1) := by decide +kernel
theorem dX5_grainsIn_19 : decode cX5_grainsIn 19 = .ok (.iload_n 1, 1) := by decide +kernel
theorem dX5_grainsIn_20 : decode cX5_grainsIn 20 = .ok (.if_icmp .ne 9, 3) := by decide +kernel
theorem dX5_grainsIn_23 : decode cX5_grainsIn 23 = .ok (.iconst 1, 1) := by decide +kernel
theorem dX5_grainsIn_24 : decode cX5_grainsIn 24 = .ok (.iload_n 3, 1) := by decide +kernel
theorem dX5_grainsIn_25 : decode cX5_grainsIn 25 = .ok (.ishl, 1) := by decide +kernel
theorem dX5_grainsIn_26 : decode cX5_grainsIn 26 = .ok (.goto 4, 3) := by decide +kernel
theorem dX5_grainsIn_29 : decode cX5_grainsIn 29 = .ok (.iconst 0, 1) := by decide +kernel
theorem dX5_grainsIn_30 : decode cX5_grainsIn 30 = .ok (.ior, 1) := by decide +kernel
theorem dX5_grainsIn_31 : decode cX5_grainsIn 31 = .ok (.istore_n 2, 1) := by decide +kernel
theorem dX5_grainsIn_32 : decode cX5_grainsIn 32 = .ok (.iinc 3 1, 3) := by decide +kernel
theorem dX5_grainsIn_35 : decode cX5_grainsIn 35 = .ok (.goto (-31), 3) := by decide +kernel
theorem dX5_grainsIn_38 : decode cX5_grainsIn 38 = .ok (.iload_n 2, 1) := by decide +kernel
theorem dX5_grainsIn_39 : decode cX5_grainsIn 39 = .ok (.ireturn, 1) := by decide +kernel
theorem dX5_amountIn_0 : decode cX5_amountIn 0 = .ok (.iconst 0, 1) := by decide +kernel
theorem dX5_amountIn_1 : decode cX5_amountIn 1 = .ok (.istore_n 2, 1) := by decide +kernel
theorem dX5_amountIn_2 : decode cX5_amountIn 2 = .ok (.iconst 0, 1) := by decide +kernel
theorem dX5_amountIn_3 : decode cX5_amountIn 3 = .ok (.istore_n 3, 1) := by decide +kernel
theorem dX5_amountIn_4 : decode cX5_amountIn 4 = .ok (.iload_n 3, 1) := by decide +kernel
theorem dX5_amountIn_5 : decode cX5_amountIn 5 = .ok (.aload_n 0, 1) := by decide +kernel
theorem dX5_amountIn_6 : decode cX5_amountIn 6 = .ok (.getfield 64, 3) := by decide +kernel
theorem dX5_amountIn_9 : decode cX5_amountIn 9 = .ok (.if_icmp .ge 32, 3) := by decide +kernel
theorem dX5_amountIn_12 : decode cX5_amountIn 12 = .ok (.iload_n 2, 1) := by decide +kernel
theorem dX5_amountIn_13 : decode cX5_amountIn 13 = .ok (.aload_n 0, 1) := by decide +kernel
theorem dX5_amountIn_14 : decode cX5_amountIn 14 = .ok (.getfield 40, 3) := by decide +kernel
theorem dX5_amountIn_17 : decode cX5_amountIn 17 = .ok (.iload_n 3, 1) := by decide +kernel
theorem dX5_amountIn_18 : decode cX5_amountIn 18 = .ok (.iaload, 1) := by decide +kernel
theorem dX5_amountIn_19 : decode cX5_amountIn 19 = .ok (.iload_n 1, 1) := by decide +kernel
theorem dX5_amountIn_20 : decode cX5_amountIn 20 = .ok (.if_icmp .ne 12, 3) := by decide +kernel
theorem dX5_amountIn_23 : decode cX5_amountIn 23 = .ok (.aload_n 0, 1) := by decide +kernel
theorem dX5_amountIn_24 : decode cX5_amountIn 24 = .ok (.getfield 13, 3) := by decide +kernel
theorem dX5_amountIn_27 : decode cX5_amountIn 27 = .ok (.iload_n 3, 1) := by decide +kernel
theorem dX5_amountIn_28 : decode cX5_amountIn 28 = .ok (.iaload, 1) := by decide +kernel
theorem dX5_amountIn_29 : decode cX5_amountIn 29 = .ok (.goto 4, 3) := by decide +kernel
theorem dX5_amountIn_32 : decode cX5_amountIn 32 = .ok (.iconst 0, 1) := by decide +kernel
theorem dX5_amountIn_33 : decode cX5_amountIn 33 = .ok (.iadd, 1) := by decide +kernel
theorem dX5_amountIn_34 : decode cX5_amountIn 34 = .ok (.istore_n 2, 1) := by decide +kernel
theorem dX5_amountIn_35 : decode cX5_amountIn 35 = .ok (.iinc 3 1, 3) := by decide +kernel
theorem dX5_amountIn_38 : decode cX5_amountIn 38 = .ok (.goto (-34), 3) := by decide +kernel
theorem dX5_amountIn_41 : decode cX5_amountIn 41 = .ok (.iload_n 2, 1) := by decide +kernel
theorem dX5_amountIn_42 : decode cX5_amountIn 42 = .ok (.ireturn, 1) := by decide +kernel
theorem dX5_valueIn_0 : decode cX5_valueIn 0 = .ok (.bipush 100, 2) := by decide +kernel
theorem dX5_valueIn_2 : decode cX5_valueIn 2 = .ok (.istore_n 2, 1) := by decide +kernel
theorem dX5_valueIn_3 : decode cX5_valueIn 3 = .ok (.iconst 0, 1) := by decide +kernel
theorem dX5_valueIn_4 : decode cX5_valueIn 4 = .ok (.istore_n 3, 1) := by decide +kernel
theorem dX5_valueIn_5 : decode cX5_valueIn 5 = .ok (.iload_n 3, 1) := by decide +kernel
theorem dX5_valueIn_6 : decode cX5_valueIn 6 = .ok (.aload_n 0, 1) := by decide +kernel
theorem dX5_valueIn_7 : decode cX5_valueIn 7 = .ok (.getfield 64, 3) := by decide +kernel
theorem dX5_valueIn_10 : decode cX5_valueIn 10 = .ok (.if_icmp .ge 40, 3) := by decide +kernel
theorem dX5_valueIn_13 : decode cX5_valueIn 13 = .ok (.aload_n 0, 1) := by decide +kernel
theorem dX5_valueIn_14 : decode cX5_valueIn 14 = .ok (.getfield 40, 3) := by decide +kernel
theorem dX5_valueIn_17 : decode cX5_valueIn 17 = .ok (.iload_n 3, 1) := by decide +kernel
theorem dX5_valueIn_18 : decode cX5_valueIn 18 = .ok (.iaload, 1) := by decide +kernel
theorem dX5_valueIn_19 : decode cX5_valueIn 19 = .ok (.iload_n 1, 1) := by decide +kernel
theorem dX5_valueIn_20 : decode cX5_valueIn 20 = .ok (.if_icmp .ne 22, 3) := by decide +kernel
theorem dX5_valueIn_23 : decode cX5_valueIn 23 = .ok (.aload_n 0, 1) := by decide +kernel
theorem dX5_valueIn_24 : decode cX5_valueIn 24 = .ok (.getfield 16, 3) := by decide +kernel
theorem dX5_valueIn_27 : decode cX5_valueIn 27 = .ok (.iload_n 3, 1) := by decide +kernel
theorem dX5_valueIn_28 : decode cX5_valueIn 28 = .ok (.iaload, 1) := by decide +kernel
theorem dX5_valueIn_29 : decode cX5_valueIn 29 = .ok (.iload_n 2, 1) := by decide +kernel
theorem dX5_valueIn_30 : decode cX5_valueIn 30 = .ok (.if_icmp .ge 12, 3) := by decide +kernel
theorem dX5_valueIn_33 : decode cX5_valueIn 33 = .ok (.aload_n 0, 1) := by decide +kernel
theorem dX5_valueIn_34 : decode cX5_valueIn 34 = .ok (.getfield 16, 3) := by decide +kernel
theorem dX5_valueIn_37 : decode cX5_valueIn 37 = .ok (.iload_n 3, 1) := by decide +kernel
theorem dX5_valueIn_38 : decode cX5_valueIn 38 = .ok (.iaload, 1) := by decide +kernel
theorem dX5_valueIn_39 : decode cX5_valueIn 39 = .ok (.goto 4, 3) := by decide +kernel
theorem dX5_valueIn_42 : decode cX5_valueIn 42 = .ok (.iload_n 2, 1) := by decide +kernel
theorem dX5_valueIn_43 : decode cX5_valueIn 43 = .ok (.istore_n 2, 1) := by decide +kernel
theorem dX5_valueIn_44 : decode cX5_valueIn 44 = .ok (.iinc 3 1, 3) := by decide +kernel
theorem dX5_valueIn_47 : decode cX5_valueIn 47 = .ok (.goto (-42), 3) := by decide +kernel
theorem dX5_valueIn_50 : decode cX5_valueIn 50 = .ok (.iload_n 2, 1) := by decide +kernel
theorem dX5_valueIn_51 : decode cX5_valueIn 51 = .ok (.bipush 100, 2) := by decide +kernel
theorem dX5_valueIn_53 : decode cX5_valueIn 53 = .ok (.if_icmp .ne 7, 3) := by decide +kernel
theorem dX5_valueIn_56 : decode cX5_valueIn 56 = .ok (.iconst 0, 1) := by decide +kernel
theorem dX5_valueIn_57 : decode cX5_valueIn 57 = .ok (.goto 10, 3) := by decide +kernel
theorem dX5_valueIn_60 : decode cX5_valueIn 60 = .ok (.aload_n 0, 1) := by decide +kernel
theorem dX5_valueIn_61 : decode cX5_valueIn 61 = .ok (.iload_n 1, 1) := by decide +kernel
theorem dX5_valueIn_62 : decode cX5_valueIn 62 = .ok (.invokevirtual 176, 3) := by decide +kernel
theorem dX5_valueIn_65 : decode cX5_valueIn 65 = .ok (.iload_n 2, 1) := by decide +kernel
theorem dX5_valueIn_66 : decode cX5_valueIn 66 = .ok (.imul, 1) := by decide +kernel
theorem dX5_valueIn_67 : decode cX5_valueIn 67 = .ok (.ireturn, 1) := by decide +kernel
theorem dX5_valueOf_0 : decode cX5_valueOf 0 = .ok (.iconst 0, 1) := by decide +kernel
theorem dX5_valueOf_1 : decode cX5_valueOf 1 = .ok (.istore_n 1, 1) := by decide +kernel
theorem dX5_valueOf_2 : decode cX5_valueOf 2 = .ok (.iconst 0, 1) := by decide +kernel
theorem dX5_valueOf_3 : decode cX5_valueOf 3 = .ok (.istore_n 2, 1) := by decide +kernel
theorem dX5_valueOf_4 : decode cX5_valueOf 4 = .ok (.iload_n 2, 1) := by decide +kernel
theorem dX5_valueOf_5 : decode cX5_valueOf 5 = .ok (.aload_n 0, 1) := by decide +kernel
theorem dX5_valueOf_6 : decode cX5_valueOf 6 = .ok (.getfield 164, 3) := by decide +kernel
theorem dX5_valueOf_9 : decode cX5_valueOf 9 = .ok (.if_icmp .gt 17, 3) := by decide +kernel
theorem dX5_valueOf_12 : decode cX5_valueOf 12 = .ok (.iload_n 1, 1) := by decide +kernel
theorem dX5_valueOf_13 : decode cX5_valueOf 13 = .ok (.aload_n 0, 1) := by decide +kernel
theorem dX5_valueOf_14 : decode cX5_valueOf 14 = .ok (.iload_n 2, 1) := by decide +kernel
theorem dX5_valueOf_15 : decode cX5_valueOf 15 = .ok (.invokevirtual 180, 3) := by decide +kernel
theorem dX5_valueOf_18 : decode cX5_valueOf 18 = .ok (.iadd, 1) := by decide +kernel
theorem dX5_valueOf_19 : decode cX5_valueOf 19 = .ok (.istore_n 1, 1) := by decide +kernel
theorem dX5_valueOf_20 : decode cX5_valueOf 20 = .ok (.iinc 2 1, 3) := by decide +kernel
theorem dX5_valueOf_23 : decode cX5_valueOf 23 = .ok (.goto (-19), 3) := by decide +kernel
theorem dX5_valueOf_26 : decode cX5_valueOf 26 = .ok (.iload_n 1, 1) := by decide +kernel
theorem dX5_valueOf_27 : decode cX5_valueOf 27 = .ok (.ireturn, 1) := by decide +kernel
theorem dX5_tryNow_0 : decode cX5_tryNow 0 = .ok (.aload_n 0, 1) := by decide +kernel
theorem dX5_tryNow_1 : decode cX5_tryNow 1 = .ok (.invokevirtual 183, 3) := by decide +kernel
theorem dX5_tryNow_4 : decode cX5_tryNow 4 = .ok (.aload_n 0, 1) := by decide +kernel
theorem dX5_tryNow_5 : decode cX5_tryNow 5 = .ok (.invokevirtual 186, 3) := by decide +kernel
theorem dX5_tryNow_8 : decode cX5_tryNow 8 = .ok (.aload_n 0, 1) := by decide +kernel
theorem dX5_tryNow_9 : decode cX5_tryNow 9 = .ok (.invokevirtual 189, 3) := by decide +kernel
theorem dX5_tryNow_12 : decode cX5_tryNow 12 = .ok (.return_, 1) := by decide +kernel
theorem dX5_found_0 : decode cX5_found 0 = .ok (.iload_n 1, 1) := by decide +kernel
theorem dX5_found_1 : decode cX5_found 1 = .ok (.i2l, 1) := by decide +kernel
theorem dX5_found_2 : decode cX5_found 2 = .ok (.lconst 0, 1) := by decide +kernel
theorem dX5_found_3 : decode cX5_found 3 = .ok (.aload_n 0, 1) := by decide +kernel
theorem dX5_found_4 : decode cX5_found 4 = .ok (.getfield 102, 3) := by decide +kernel
theorem dX5_found_7 : decode cX5_found 7 = .ok (.i2l, 1) := by decide +kernel
theorem dX5_found_8 : decode cX5_found 8 = .ok (.invokestatic 68, 3) := by decide +kernel
theorem dX5_found_11 : decode cX5_found 11 = .ok (.ifCond .eq 15, 3) := by decide +kernel
theorem dX5_found_14 : decode cX5_found 14 = .ok (.iload_n 2, 1) := by decide +kernel
theorem dX5_found_15 : decode cX5_found 15 = .ok (.i2l, 1) := by decide +kernel
theorem dX5_found_16 : decode cX5_found 16 = .ok (.lconst 0, 1) := by decide +kernel
theorem dX5_found_17 : decode cX5_found 17 = .ok (.ldc2_w 89, 3) := by decide +kernel
theorem dX5_found_20 : decode cX5_found 20 = .ok (.invokestatic 68, 3) := by decide +kernel
theorem dX5_found_23 : decode cX5_found 23 = .ok (.ifCond .ne 5, 3) := by decide +kernel
theorem dX5_found_26 : decode cX5_found 26 = .ok (.iconst (-1), 1) := by decide +kernel
theorem dX5_found_27 : decode cX5_found 27 = .ok (.ireturn, 1) := by decide +kernel
theorem dX5_found_28 : decode cX5_found 28 = .ok (.aload_n 0, 1) := by decide +kernel
theorem dX5_found_29 : decode cX5_found 29 = .ok (.invokevirtual 192, 3) := by decide +kernel
theorem dX5_found_32 : decode cX5_found 32 = .ok (.iload_n 2, 1) := by decide +kernel
theorem dX5_found_33 : decode cX5_found 33 = .ok (.ifCond .ne 11, 3) := by decide +kernel
theorem dX5_found_36 : decode cX5_found 36 = .ok (.aload_n 0, 1) := by decide +kernel
theorem dX5_found_37 : decode cX5_found 37 = .ok (.iload_n 1, 1) := by decide +kernel
theorem dX5_found_38 : decode cX5_found 38 = .ok (.invokevirtual 195, 3) := by decide +kernel
theorem dX5_found_41 : decode cX5_found 41 = .ok (.goto 21, 3) := by decide +kernel
theorem dX5_found_44 : decode cX5_found 44 = .ok (.iload_n 2, 1) := by decide +kernel
theorem dX5_found_45 : decode cX5_found 45 = .ok (.iconst 1, 1) := by decide +kernel
theorem dX5_found_46 : decode cX5_found 46 = .ok (.if_icmp .ne 11, 3) := by decide +kernel
theorem dX5_found_49 : decode cX5_found 49 = .ok (.aload_n 0, 1) := by decide +kernel
theorem dX5_found_50 : decode cX5_found 50 = .ok (.iload_n 1, 1) := by decide +kernel
theorem dX5_found_51 : decode cX5_found 51 = .ok (.invokevirtual 176, 3) := by decide +kernel
theorem dX5_found_54 : decode cX5_found 54 = .ok (.goto 8, 3) := by decide +kernel
theorem dX5_found_57 : decode cX5_found 57 = .ok (.aload_n 0, 1) := by decide +kernel
theorem dX5_found_58 : decode cX5_found 58 = .ok (.iload_n 1, 1) := by decide +kernel
theorem dX5_found_59 : decode cX5_found 59 = .ok (.invokevirtual 180, 3) := by decide +kernel
theorem dX5_found_62 : decode cX5_found 62 = .ok (.ireturn, 1) := by decide +kernel
theorem dX5_where_0 : decode cX5_where 0 = .ok (.aload_n 0, 1) := by decide +kernel
theorem dX5_where_1 : decode cX5_where 1 = .ok (.iload_n 1, 1) := by decide +kernel
theorem dX5_where_2 : decode cX5_where 2 = .ok (.invokevirtual 85, 3) := by decide +kernel
theorem dX5_where_5 : decode cX5_where 5 = .ok (.ifCond .ne 5, 3) := by decide +kernel
theorem dX5_where_8 : decode cX5_where 8 = .ok (.iconst (-1), 1) := by decide +kernel
theorem dX5_where_9 : decode cX5_where 9 = .ok (.ireturn, 1) := by decide +kernel
theorem dX5_where_10 : decode cX5_where 10 = .ok (.aload_n 0, 1) := by decide +kernel
theorem dX5_where_11 : decode cX5_where 11 = .ok (.invokevirtual 192, 3) := by decide +kernel
theorem dX5_where_14 : decode cX5_where 14 = .ok (.aload_n 0, 1) := by decide +kernel
theorem dX5_where_15 : decode cX5_where 15 = .ok (.getfield 40, 3) := by decide +kernel
theorem dX5_where_18 : decode cX5_where 18 = .ok (.iload_n 1, 1) := by decide +kernel
theorem dX5_where_19 : decode cX5_where 19 = .ok (.iaload, 1) := by decide +kernel
theorem dX5_where_20 : decode cX5_where 20 = .ok (.ireturn, 1) := by decide +kernel
theorem dX5_chokes_0 : decode cX5_chokes 0 = .ok (.aload_n 0, 1) := by decide +kernel
theorem dX5_chokes_1 : decode cX5_chokes 1 = .ok (.invokevirtual 192, 3) := by decide +kernel
theorem dX5_chokes_4 : decode cX5_chokes 4 = .ok (.aload_n 0, 1) := by decide +kernel
theorem dX5_chokes_5 : decode cX5_chokes 5 = .ok (.getfield 167, 3) := by decide +kernel
theorem dX5_chokes_8 : decode cX5_chokes 8 = .ok (.ireturn, 1) := by decide +kernel
theorem dX5_keep_0 : decode cX5_keep 0 = .ok (.aload_n 0, 1) := by decide +kernel
theorem dX5_keep_1 : decode cX5_keep 1 = .ok (.invokevirtual 198, 3) := by decide +kernel
theorem dX5_keep_4 : decode cX5_keep 4 = .ok (.iconst 0, 1) := by decide +kernel
theorem dX5_keep_5 : decode cX5_keep 5 = .ok (.istore_n 1, 1) := by decide +kernel
theorem dX5_keep_6 : decode cX5_keep 6 = .ok (.iload_n 1, 1) := by decide +kernel
theorem dX5_keep_7 : decode cX5_keep 7 = .ok (.aload_n 0, 1) := by decide +kernel
theorem dX5_keep_8 : decode cX5_keep 8 = .ok (.getfield 72, 3) := by decide +kernel
theorem dX5_keep_11 : decode cX5_keep 11 = .ok (.if_icmp .ge 25, 3) := by decide +kernel
theorem dX5_keep_14 : decode cX5_keep 14 = .ok (.aload_n 0, 1) := by decide +kernel
theorem dX5_keep_15 : decode cX5_keep 15 = .ok (.getfield 19, 3) := by decide +kernel
theorem dX5_keep_18 : decode cX5_keep 18 = .ok (.iconst 4, 1) := by decide +kernel
theorem dX5_keep_19 : decode cX5_keep 19 = .ok (.iload_n 1, 1) := by decide +kernel
theorem dX5_keep_20 : decode cX5_keep 20 = .ok (.imul, 1) := by decide +kernel
theorem dX5_keep_21 : decode cX5_keep 21 = .ok (.iconst 1, 1) := by decide +kernel
theorem dX5_keep_22 : decode cX5_keep 22 = .ok (.iadd, 1) := by decide +kernel
theorem dX5_keep_23 : decode cX5_keep 23 = .ok (.aload_n 0, 1) := by decide +kernel
theorem dX5_keep_24 : decode cX5_keep 24 = .ok (.getfield 37, 3) := by decide +kernel
theorem dX5_keep_27 : decode cX5_keep 27 = .ok (.iload_n 1, 1) := by decide +kernel
theorem dX5_keep_28 : decode cX5_keep 28 = .ok (.iaload, 1) := by decide +kernel
theorem dX5_keep_29 : decode cX5_keep 29 = .ok (.iastore, 1) := by decide +kernel
theorem dX5_keep_30 : decode cX5_keep 30 = .ok (.iinc 1 1, 3) := by decide +kernel
theorem dX5_keep_33 : decode cX5_keep 33 = .ok (.goto (-27), 3) := by decide +kernel
theorem dX5_keep_36 : decode cX5_keep 36 = .ok (.aload_n 0, 1) := by decide +kernel
theorem dX5_keep_37 : decode cX5_keep 37 = .ok (.aload_n 0, 1) := by decide +kernel
theorem dX5_keep_38 : decode cX5_keep 38 = .ok (.getfield 105, 3) := by decide +kernel
theorem dX5_keep_41 : decode cX5_keep 41 = .ok (.ldc 201, 2) := by decide +kernel
theorem dX5_keep_43 : decode cX5_keep 43 = .ok (.if_icmp .ne 8, 3) := by decide +kernel
theorem dX5_keep_46 : decode cX5_keep 46 = .ok (.ldc 201, 2) := by decide +kernel
theorem dX5_keep_48 : decode cX5_keep 48 = .ok (.goto 9, 3) := by decide +kernel
theorem dX5_keep_51 : decode cX5_keep 51 = .ok (.aload_n 0, 1) := by decide +kernel
theorem dX5_keep_52 : decode cX5_keep 52 = .ok (.getfield 105, 3) := by decide +kernel
theorem dX5_keep_55 : decode cX5_keep 55 = .ok (.iconst 1, 1) := by decide +kernel
theorem dX5_keep_56 : decode cX5_keep 56 = .ok (.iadd, 1) := by decide +kernel
theorem dX5_keep_57 : decode cX5_keep 57 = .ok (.putfield 105, 3) := by decide +kernel
theorem dX5_keep_60 : decode cX5_keep 60 = .ok (.return_, 1) := by decide +kernel
theorem dX5_shake_0 : decode cX5_shake 0 = .ok (.aload_n 0, 1) := by decide +kernel
theorem dX5_shake_1 : decode cX5_shake 1 = .ok (.invokevirtual 192, 3) := by decide +kernel
theorem dX5_shake_4 : decode cX5_shake 4 = .ok (.aload_n 0, 1) := by decide +kernel
theorem dX5_shake_5 : decode cX5_shake 5 = .ok (.invokevirtual 202, 3) := by decide +kernel
theorem dX5_shake_8 : decode cX5_shake 8 = .ok (.istore_n 1, 1) := by decide +kernel
theorem dX5_shake_9 : decode cX5_shake 9 = .ok (.aload_n 0, 1) := by decide +kernel
theorem dX5_shake_10 : decode cX5_shake 10 = .ok (.invokevirtual 205, 3) := by decide +kernel
theorem dX5_shake_13 : decode cX5_shake 13 = .ok (.iload_n 1, 1) := by decide +kernel
theorem dX5_shake_14 : decode cX5_shake 14 = .ok (.ireturn, 1) := by decide +kernel
theorem dX5_lasts_0 : decode cX5_lasts 0 = .ok (.aload_n 0, 1) := by decide +kernel
theorem dX5_lasts_1 : decode cX5_lasts 1 = .ok (.invokevirtual 192, 3) := by decide +kernel
theorem dX5_lasts_4 : decode cX5_lasts 4 = .ok (.iconst 0, 1) := by decide +kernel
theorem dX5_lasts_5 : decode cX5_lasts 5 = .ok (.istore_n 1, 1) := by decide +kernel
theorem dX5_lasts_6 : decode cX5_lasts 6 = .ok (.iload_n 1, 1) := by decide +kernel
theorem dX5_lasts_7 : decode cX5_lasts 7 = .ok (.aload_n 0, 1) := by decide +kernel
theorem dX5_lasts_8 : decode cX5_lasts 8 = .ok (.getfield 64, 3) := by decide +kernel
theorem dX5_lasts_11 : decode cX5_lasts 11 = .ok (.if_icmp .ge 21, 3) := by decide +kernel
theorem dX5_lasts_14 : decode cX5_lasts 14 = .ok (.aload_n 0, 1) := by decide +kernel
theorem dX5_lasts_15 : decode cX5_lasts 15 = .ok (.getfield 43, 3) := by decide +kernel
theorem dX5_lasts_18 : decode cX5_lasts 18 = .ok (.iload_n 1, 1) := by decide +kernel
theorem dX5_lasts_19 : decode cX5_lasts 19 = .ok (.aload_n 0, 1) := by decide +kernel
theorem dX5_lasts_20 : decode cX5_lasts 20 = .ok (.getfield 40, 3) := by decide +kernel
theorem dX5_lasts_23 : decode cX5_lasts 23 = .ok (.iload_n 1, 1) := by decide +kernel
theorem dX5_lasts_24 : decode cX5_lasts 24 = .ok (.iaload, 1) := by decide +kernel
theorem dX5_lasts_25 : decode cX5_lasts 25 = .ok (.iastore, 1) := by decide +kernel
theorem dX5_lasts_26 : decode cX5_lasts 26 = .ok (.iinc 1 1, 3) := by decide +kernel
theorem dX5_lasts_29 : decode cX5_lasts 29 = .ok (.goto (-23), 3) := by decide +kernel
theorem dX5_lasts_32 : decode cX5_lasts 32 = .ok (.iconst 1, 1) := by decide +kernel
theorem dX5_lasts_33 : decode cX5_lasts 33 = .ok (.istore_n 1, 1) := by decide +kernel
theorem dX5_lasts_34 : decode cX5_lasts 34 = .ok (.iconst 0, 1) := by decide +kernel
theorem dX5_lasts_35 : decode cX5_lasts 35 = .ok (.istore_n 2, 1) := by decide +kernel
theorem dX5_lasts_36 : decode cX5_lasts 36 = .ok (.iload_n 1, 1) := by decide +kernel
theorem dX5_lasts_37 : decode cX5_lasts 37 = .ok (.ifCond .eq 65, 3) := by decide +kernel
theorem dX5_lasts_40 : decode cX5_lasts 40 = .ok (.iload_n 2, 1) := by decide +kernel
theorem dX5_lasts_41 : decode cX5_lasts 41 = .ok (.sipush 200, 3) := by decide +kernel
theorem dX5_lasts_44 : decode cX5_lasts 44 = .ok (.if_icmp .ge 58, 3) := by decide +kernel
theorem dX5_lasts_47 : decode cX5_lasts 47 = .ok (.iinc 2 1, 3) := by decide +kernel
theorem dX5_lasts_50 : decode cX5_lasts 50 = .ok (.aload_n 0, 1) := by decide +kernel
theorem dX5_lasts_51 : decode cX5_lasts 51 = .ok (.invokevirtual 198, 3) := by decide +kernel
theorem dX5_lasts_54 : decode cX5_lasts 54 = .ok (.aload_n 0, 1) := by decide +kernel
theorem dX5_lasts_55 : decode cX5_lasts 55 = .ok (.invokevirtual 189, 3) := by decide +kernel
theorem dX5_lasts_58 : decode cX5_lasts 58 = .ok (.iconst 0, 1) := by decide +kernel
theorem dX5_lasts_59 : decode cX5_lasts 59 = .ok (.istore_n 3, 1) := by decide +kernel
theorem dX5_lasts_60 : decode cX5_lasts 60 = .ok (.iload_n 3, 1) := by decide +kernel
theorem dX5_lasts_61 : decode cX5_lasts 61 = .ok (.aload_n 0, 1) := by decide +kernel
end
section
theorem dX5_lasts_62 : decode cX5_lasts 62 = .ok (.getfield 64, 3) := by decide +kernel
theorem dX5_lasts_65 : decode cX5_lasts 65 = .ok (.if_icmp .ge 34, 3) := by decide +kernel
theorem dX5_lasts_68 : decode cX5_lasts 68 = .ok (.iload_n 1, 1) := by decide +kernel
theorem dX5_lasts_69 : decode cX5_lasts 69 = .ok (.ifCond .eq 22, 3) := by decide +kernel
theorem dX5_lasts_72 : decode cX5_lasts 72 = .ok (.aload_n 0, 1) := by decide +kernel
theorem dX5_lasts_73 : decode cX5_lasts 73 = .ok (.getfield 40, 3) := by decide +kernel
theorem dX5_lasts_76 : decode cX5_lasts 76 = .ok (.iload_n 3, 1) := by decide +kernel
theorem dX5_lasts_77 : decode cX5_lasts 77 = .ok (.iaload, 1) := by decide +kernel
theorem dX5_lasts_78 : decode cX5_lasts 78 = .ok (.aload_n 0, 1) := by decide +kernel
theorem dX5_lasts_79 : decode cX5_lasts 79 = .ok (.getfield 43, 3) := by decide +kernel
theorem dX5_lasts_82 : decode cX5_lasts 82 = .ok (.iload_n 3, 1) := by decide +kernel
theorem dX5_lasts_83 : decode cX5_lasts 83 = .ok (.iaload, 1) := by decide +kernel
theorem dX5_lasts_84 : decode cX5_lasts 84 = .ok (.if_icmp .ne 7, 3) := by decide +kernel
theorem dX5_lasts_87 : decode cX5_lasts 87 = .ok (.iconst 1, 1) := by decide +kernel
theorem dX5_lasts_88 : decode cX5_lasts 88 = .ok (.goto 4, 3) := by decide +kernel
theorem dX5_lasts_91 : decode cX5_lasts 91 = .ok (.iconst 0, 1) := by decide +kernel
theorem dX5_lasts_92 : decode cX5_lasts 92 = .ok (.istore_n 1, 1) := by decide +kernel
theorem dX5_lasts_93 : decode cX5_lasts 93 = .ok (.iinc 3 1, 3) := by decide +kernel
theorem dX5_lasts_96 : decode cX5_lasts 96 = .ok (.goto (-36), 3) := by decide +kernel
theorem dX5_lasts_99 : decode cX5_lasts 99 = .ok (.goto (-63), 3) := by decide +kernel
theorem dX5_lasts_102 : decode cX5_lasts 102 = .ok (.iload_n 2, 1) := by decide +kernel
theorem dX5_lasts_103 : decode cX5_lasts 103 = .ok (.ireturn, 1) := by decide +kernel
theorem dX5_isRow_0 : decode cX5_isRow 0 = .ok (.iconst 0, 1) := by decide +kernel
theorem dX5_isRow_1 : decode cX5_isRow 1 = .ok (.istore_n 1, 1) := by decide +kernel
theorem dX5_isRow_2 : decode cX5_isRow 2 = .ok (.iconst 1, 1) := by decide +kernel
theorem dX5_isRow_3 : decode cX5_isRow 3 = .ok (.istore_n 2, 1) := by decide +kernel
theorem dX5_isRow_4 : decode cX5_isRow 4 = .ok (.iconst 0, 1) := by decide +kernel
theorem dX5_isRow_5 : decode cX5_isRow 5 = .ok (.istore_n 3, 1) := by decide +kernel
theorem dX5_isRow_6 : decode cX5_isRow 6 = .ok (.iload_n 3, 1) := by decide +kernel
theorem dX5_isRow_7 : decode cX5_isRow 7 = .ok (.aload_n 0, 1) := by decide +kernel
theorem dX5_isRow_8 : decode cX5_isRow 8 = .ok (.getfield 164, 3) := by decide +kernel
theorem dX5_isRow_11 : decode cX5_isRow 11 = .ok (.if_icmp .ge 43, 3) := by decide +kernel
theorem dX5_isRow_14 : decode cX5_isRow 14 = .ok (.iload_n 2, 1) := by decide +kernel
theorem dX5_isRow_15 : decode cX5_isRow 15 = .ok (.ifCond .eq 20, 3) := by decide +kernel
theorem dX5_isRow_18 : decode cX5_isRow 18 = .ok (.iload_n 1, 1) := by decide +kernel
theorem dX5_isRow_19 : decode cX5_isRow 19 = .ok (.aload_n 0, 1) := by decide +kernel
theorem dX5_isRow_20 : decode cX5_isRow 20 = .ok (.getfield 31, 3) := by decide +kernel
theorem dX5_isRow_23 : decode cX5_isRow 23 = .ok (.iload_n 3, 1) := by decide +kernel
theorem dX5_isRow_24 : decode cX5_isRow 24 = .ok (.iaload, 1) := by decide +kernel
theorem dX5_isRow_25 : decode cX5_isRow 25 = .ok (.invokestatic 156, 3) := by decide +kernel
theorem dX5_isRow_28 : decode cX5_isRow 28 = .ok (.ifCond .ne 7, 3) := by decide +kernel
theorem dX5_isRow_31 : decode cX5_isRow 31 = .ok (.iconst 1, 1) := by decide +kernel
theorem dX5_isRow_32 : decode cX5_isRow 32 = .ok (.goto 4, 3) := by decide +kernel
theorem dX5_isRow_35 : decode cX5_isRow 35 = .ok (.iconst 0, 1) := by decide +kernel
theorem dX5_isRow_36 : decode cX5_isRow 36 = .ok (.istore_n 2, 1) := by decide +kernel
theorem dX5_isRow_37 : decode cX5_isRow 37 = .ok (.iload_n 1, 1) := by decide +kernel
theorem dX5_isRow_38 : decode cX5_isRow 38 = .ok (.iconst 1, 1) := by decide +kernel
theorem dX5_isRow_39 : decode cX5_isRow 39 = .ok (.aload_n 0, 1) := by decide +kernel
theorem dX5_isRow_40 : decode cX5_isRow 40 = .ok (.getfield 31, 3) := by decide +kernel
theorem dX5_isRow_43 : decode cX5_isRow 43 = .ok (.iload_n 3, 1) := by decide +kernel
theorem dX5_isRow_44 : decode cX5_isRow 44 = .ok (.iaload, 1) := by decide +kernel
theorem dX5_isRow_45 : decode cX5_isRow 45 = .ok (.ishl, 1) := by decide +kernel
theorem dX5_isRow_46 : decode cX5_isRow 46 = .ok (.ior, 1) := by decide +kernel
theorem dX5_isRow_47 : decode cX5_isRow 47 = .ok (.istore_n 1, 1) := by decide +kernel
theorem dX5_isRow_48 : decode cX5_isRow 48 = .ok (.iinc 3 1, 3) := by decide +kernel
theorem dX5_isRow_51 : decode cX5_isRow 51 = .ok (.goto (-45), 3) := by decide +kernel
theorem dX5_isRow_54 : decode cX5_isRow 54 = .ok (.iload_n 2, 1) := by decide +kernel
theorem dX5_isRow_55 : decode cX5_isRow 55 = .ok (.ireturn, 1) := by decide +kernel
theorem dX5_nextRow_0 : decode cX5_nextRow 0 = .ok (.aload_n 0, 1) := by decide +kernel
theorem dX5_nextRow_1 : decode cX5_nextRow 1 = .ok (.getfield 164, 3) := by decide +kernel
theorem dX5_nextRow_4 : decode cX5_nextRow 4 = .ok (.iconst 1, 1) := by decide +kernel
theorem dX5_nextRow_5 : decode cX5_nextRow 5 = .ok (.isub, 1) := by decide +kernel
theorem dX5_nextRow_6 : decode cX5_nextRow 6 = .ok (.istore_n 1, 1) := by decide +kernel
theorem dX5_nextRow_7 : decode cX5_nextRow 7 = .ok (.iload_n 1, 1) := by decide +kernel
theorem dX5_nextRow_8 : decode cX5_nextRow 8 = .ok (.ifCond .lt 41, 3) := by decide +kernel
theorem dX5_nextRow_11 : decode cX5_nextRow 11 = .ok (.aload_n 0, 1) := by decide +kernel
theorem dX5_nextRow_12 : decode cX5_nextRow 12 = .ok (.getfield 31, 3) := by decide +kernel
theorem dX5_nextRow_15 : decode cX5_nextRow 15 = .ok (.iload_n 1, 1) := by decide +kernel
theorem dX5_nextRow_16 : decode cX5_nextRow 16 = .ok (.dup2, 1) := by decide +kernel
theorem dX5_nextRow_17 : decode cX5_nextRow 17 = .ok (.iaload, 1) := by decide +kernel
theorem dX5_nextRow_18 : decode cX5_nextRow 18 = .ok (.iconst 1, 1) := by decide +kernel
theorem dX5_nextRow_19 : decode cX5_nextRow 19 = .ok (.iadd, 1) := by decide +kernel
theorem dX5_nextRow_20 : decode cX5_nextRow 20 = .ok (.iastore, 1) := by decide +kernel
theorem dX5_nextRow_21 : decode cX5_nextRow 21 = .ok (.aload_n 0, 1) := by decide +kernel
theorem dX5_nextRow_22 : decode cX5_nextRow 22 = .ok (.getfield 31, 3) := by decide +kernel
theorem dX5_nextRow_25 : decode cX5_nextRow 25 = .ok (.iload_n 1, 1) := by decide +kernel
theorem dX5_nextRow_26 : decode cX5_nextRow 26 = .ok (.iaload, 1) := by decide +kernel
theorem dX5_nextRow_27 : decode cX5_nextRow 27 = .ok (.aload_n 0, 1) := by decide +kernel
theorem dX5_nextRow_28 : decode cX5_nextRow 28 = .ok (.getfield 72, 3) := by decide +kernel
theorem dX5_nextRow_31 : decode cX5_nextRow 31 = .ok (.if_icmp .ge 5, 3) := by decide +kernel
theorem dX5_nextRow_34 : decode cX5_nextRow 34 = .ok (.iconst 1, 1) := by decide +kernel
theorem dX5_nextRow_35 : decode cX5_nextRow 35 = .ok (.ireturn, 1) := by decide +kernel
theorem dX5_nextRow_36 : decode cX5_nextRow 36 = .ok (.aload_n 0, 1) := by decide +kernel
theorem dX5_nextRow_37 : decode cX5_nextRow 37 = .ok (.getfield 31, 3) := by decide +kernel
theorem dX5_nextRow_40 : decode cX5_nextRow 40 = .ok (.iload_n 1, 1) := by decide +kernel
theorem dX5_nextRow_41 : decode cX5_nextRow 41 = .ok (.iconst 0, 1) := by decide +kernel
theorem dX5_nextRow_42 : decode cX5_nextRow 42 = .ok (.iastore, 1) := by decide +kernel
theorem dX5_nextRow_43 : decode cX5_nextRow 43 = .ok (.iinc 1 (-1), 3) := by decide +kernel
theorem dX5_nextRow_46 : decode cX5_nextRow 46 = .ok (.goto (-39), 3) := by decide +kernel
theorem dX5_nextRow_49 : decode cX5_nextRow 49 = .ok (.iconst 0, 1) := by decide +kernel
theorem dX5_nextRow_50 : decode cX5_nextRow 50 = .ok (.ireturn, 1) := by decide +kernel
theorem dX5_areParted_0 : decode cX5_areParted 0 = .ok (.iconst 0, 1) := by decide +kernel
theorem dX5_areParted_1 : decode cX5_areParted 1 = .ok (.istore_n 1, 1) := by decide +kernel
theorem dX5_areParted_2 : decode cX5_areParted 2 = .ok (.iconst 1, 1) := by decide +kernel
theorem dX5_areParted_3 : decode cX5_areParted 3 = .ok (.istore_n 2, 1) := by decide +kernel
theorem dX5_areParted_4 : decode cX5_areParted 4 = .ok (.iconst 0, 1) := by decide +kernel
theorem dX5_areParted_5 : decode cX5_areParted 5 = .ok (.istore_n 3, 1) := by decide +kernel
theorem dX5_areParted_6 : decode cX5_areParted 6 = .ok (.iload_n 3, 1) := by decide +kernel
theorem dX5_areParted_7 : decode cX5_areParted 7 = .ok (.aload_n 0, 1) := by decide +kernel
theorem dX5_areParted_8 : decode cX5_areParted 8 = .ok (.getfield 64, 3) := by decide +kernel
theorem dX5_areParted_11 : decode cX5_areParted 11 = .ok (.if_icmp .ge 63, 3) := by decide +kernel
theorem dX5_areParted_14 : decode cX5_areParted 14 = .ok (.aload_n 0, 1) := by decide +kernel
theorem dX5_areParted_15 : decode cX5_areParted 15 = .ok (.getfield 208, 3) := by decide +kernel
theorem dX5_areParted_18 : decode cX5_areParted 18 = .ok (.iload_n 3, 1) := by decide +kernel
theorem dX5_areParted_19 : decode cX5_areParted 19 = .ok (.invokestatic 156, 3) := by decide +kernel
theorem dX5_areParted_22 : decode cX5_areParted 22 = .ok (.ifCond .eq 46, 3) := by decide +kernel
theorem dX5_areParted_25 : decode cX5_areParted 25 = .ok (.aload_n 0, 1) := by decide +kernel
theorem dX5_areParted_26 : decode cX5_areParted 26 = .ok (.getfield 40, 3) := by decide +kernel
theorem dX5_areParted_29 : decode cX5_areParted 29 = .ok (.iload_n 3, 1) := by decide +kernel
theorem dX5_areParted_30 : decode cX5_areParted 30 = .ok (.iaload, 1) := by decide +kernel
theorem dX5_areParted_31 : decode cX5_areParted 31 = .ok (.ifCond .lt 37, 3) := by decide +kernel
theorem dX5_areParted_34 : decode cX5_areParted 34 = .ok (.iload_n 2, 1) := by decide +kernel
theorem dX5_areParted_35 : decode cX5_areParted 35 = .ok (.ifCond .eq 20, 3) := by decide +kernel
theorem dX5_areParted_38 : decode cX5_areParted 38 = .ok (.iload_n 1, 1) := by decide +kernel
theorem dX5_areParted_39 : decode cX5_areParted 39 = .ok (.aload_n 0, 1) := by decide +kernel
theorem dX5_areParted_40 : decode cX5_areParted 40 = .ok (.getfield 40, 3) := by decide +kernel
theorem dX5_areParted_43 : decode cX5_areParted 43 = .ok (.iload_n 3, 1) := by decide +kernel
theorem dX5_areParted_44 : decode cX5_areParted 44 = .ok (.iaload, 1) := by decide +kernel
theorem dX5_areParted_45 : decode cX5_areParted 45 = .ok (.invokestatic 156, 3) := by decide +kernel
theorem dX5_areParted_48 : decode cX5_areParted 48 = .ok (.ifCond .ne 7, 3) := by decide +kernel
theorem dX5_areParted_51 : decode cX5_areParted 51 = .ok (.iconst 1, 1) := by decide +kernel
theorem dX5_areParted_52 : decode cX5_areParted 52 = .ok (.goto 4, 3) := by decide +kernel
theorem dX5_areParted_55 : decode cX5_areParted 55 = .ok (.iconst 0, 1) := by decide +kernel
theorem dX5_areParted_56 : decode cX5_areParted 56 = .ok (.istore_n 2, 1) := by decide +kernel
theorem dX5_areParted_57 : decode cX5_areParted 57 = .ok (.iload_n 1, 1) := by decide +kernel
theorem dX5_areParted_58 : decode cX5_areParted 58 = .ok (.iconst 1, 1) := by decide +kernel
theorem dX5_areParted_59 : decode cX5_areParted 59 = .ok (.aload_n 0, 1) := by decide +kernel
theorem dX5_areParted_60 : decode cX5_areParted 60 = .ok (.getfield 40, 3) := by decide +kernel
theorem dX5_areParted_63 : decode cX5_areParted 63 = .ok (.iload_n 3, 1) := by decide +kernel
theorem dX5_areParted_64 : decode cX5_areParted 64 = .ok (.iaload, 1) := by decide +kernel
theorem dX5_areParted_65 : decode cX5_areParted 65 = .ok (.ishl, 1) := by decide +kernel
theorem dX5_areParted_66 : decode cX5_areParted 66 = .ok (.ior, 1) := by decide +kernel
theorem dX5_areParted_67 : decode cX5_areParted 67 = .ok (.istore_n 1, 1) := by decide +kernel
theorem dX5_areParted_68 : decode cX5_areParted 68 = .ok (.iinc 3 1, 3) := by decide +kernel
theorem dX5_areParted_71 : decode cX5_areParted 71 = .ok (.goto (-65), 3) := by decide +kernel
theorem dX5_areParted_74 : decode cX5_areParted 74 = .ok (.iload_n 2, 1) := by decide +kernel
theorem dX5_areParted_75 : decode cX5_areParted 75 = .ok (.ireturn, 1) := by decide +kernel
theorem dX5_takeBest_0 : decode cX5_takeBest 0 = .ok (.aload_n 0, 1) := by decide +kernel
theorem dX5_takeBest_1 : decode cX5_takeBest 1 = .ok (.iload_n 1, 1) := by decide +kernel
theorem dX5_takeBest_2 : decode cX5_takeBest 2 = .ok (.putfield 211, 3) := by decide +kernel
theorem dX5_takeBest_5 : decode cX5_takeBest 5 = .ok (.aload_n 0, 1) := by decide +kernel
theorem dX5_takeBest_6 : decode cX5_takeBest 6 = .ok (.aload_n 0, 1) := by decide +kernel
theorem dX5_takeBest_7 : decode cX5_takeBest 7 = .ok (.getfield 164, 3) := by decide +kernel
theorem dX5_takeBest_10 : decode cX5_takeBest 10 = .ok (.putfield 214, 3) := by decide +kernel
theorem dX5_takeBest_13 : decode cX5_takeBest 13 = .ok (.iconst 0, 1) := by decide +kernel
theorem dX5_takeBest_14 : decode cX5_takeBest 14 = .ok (.istore_n 2, 1) := by decide +kernel
theorem dX5_takeBest_15 : decode cX5_takeBest 15 = .ok (.iload_n 2, 1) := by decide +kernel
theorem dX5_takeBest_16 : decode cX5_takeBest 16 = .ok (.aload_n 0, 1) := by decide +kernel
theorem dX5_takeBest_17 : decode cX5_takeBest 17 = .ok (.getfield 164, 3) := by decide +kernel
theorem dX5_takeBest_20 : decode cX5_takeBest 20 = .ok (.if_icmp .ge 21, 3) := by decide +kernel
theorem dX5_takeBest_23 : decode cX5_takeBest 23 = .ok (.aload_n 0, 1) := by decide +kernel
theorem dX5_takeBest_24 : decode cX5_takeBest 24 = .ok (.getfield 46, 3) := by decide +kernel
theorem dX5_takeBest_27 : decode cX5_takeBest 27 = .ok (.iload_n 2, 1) := by decide +kernel
theorem dX5_takeBest_28 : decode cX5_takeBest 28 = .ok (.aload_n 0, 1) := by decide +kernel
theorem dX5_takeBest_29 : decode cX5_takeBest 29 = .ok (.getfield 31, 3) := by decide +kernel
theorem dX5_takeBest_32 : decode cX5_takeBest 32 = .ok (.iload_n 2, 1) := by decide +kernel
theorem dX5_takeBest_33 : decode cX5_takeBest 33 = .ok (.iaload, 1) := by decide +kernel
theorem dX5_takeBest_34 : decode cX5_takeBest 34 = .ok (.iastore, 1) := by decide +kernel
theorem dX5_takeBest_35 : decode cX5_takeBest 35 = .ok (.iinc 2 1, 3) := by decide +kernel
theorem dX5_takeBest_38 : decode cX5_takeBest 38 = .ok (.goto (-23), 3) := by decide +kernel
theorem dX5_takeBest_41 : decode cX5_takeBest 41 = .ok (.return_, 1) := by decide +kernel
theorem dX5_findBest_0 : decode cX5_findBest 0 = .ok (.aload_n 0, 1) := by decide +kernel
theorem dX5_findBest_1 : decode cX5_findBest 1 = .ok (.invokevirtual 183, 3) := by decide +kernel
theorem dX5_findBest_4 : decode cX5_findBest 4 = .ok (.aload_n 0, 1) := by decide +kernel
theorem dX5_findBest_5 : decode cX5_findBest 5 = .ok (.bipush (-4), 2) := by decide +kernel
theorem dX5_findBest_7 : decode cX5_findBest 7 = .ok (.putfield 214, 3) := by decide +kernel
theorem dX5_findBest_10 : decode cX5_findBest 10 = .ok (.aload_n 0, 1) := by decide +kernel
theorem dX5_findBest_11 : decode cX5_findBest 11 = .ok (.iconst (-1), 1) := by decide +kernel
theorem dX5_findBest_12 : decode cX5_findBest 12 = .ok (.putfield 211, 3) := by decide +kernel
theorem dX5_findBest_15 : decode cX5_findBest 15 = .ok (.iconst 0, 1) := by decide +kernel
theorem dX5_findBest_16 : decode cX5_findBest 16 = .ok (.istore_n 3, 1) := by decide +kernel
theorem dX5_findBest_17 : decode cX5_findBest 17 = .ok (.iload_n 3, 1) := by decide +kernel
theorem dX5_findBest_18 : decode cX5_findBest 18 = .ok (.iload_n 1, 1) := by decide +kernel
theorem dX5_findBest_19 : decode cX5_findBest 19 = .ok (.if_icmp .gt 113, 3) := by decide +kernel
theorem dX5_findBest_22 : decode cX5_findBest 22 = .ok (.iload_n 3, 1) := by decide +kernel
theorem dX5_findBest_23 : decode cX5_findBest 23 = .ok (.aload_n 0, 1) := by decide +kernel
theorem dX5_findBest_24 : decode cX5_findBest 24 = .ok (.getfield 72, 3) := by decide +kernel
theorem dX5_findBest_27 : decode cX5_findBest 27 = .ok (.if_icmp .gt 105, 3) := by decide +kernel
theorem dX5_findBest_30 : decode cX5_findBest 30 = .ok (.aload_n 0, 1) := by decide +kernel
theorem dX5_findBest_31 : decode cX5_findBest 31 = .ok (.iload_n 3, 1) := by decide +kernel
theorem dX5_findBest_32 : decode cX5_findBest 32 = .ok (.putfield 164, 3) := by decide +kernel
theorem dX5_findBest_35 : decode cX5_findBest 35 = .ok (.iconst 0, 1) := by decide +kernel
theorem dX5_findBest_36 : decode cX5_findBest 36 = .ok (.istore 4, 2) := by decide +kernel
theorem dX5_findBest_38 : decode cX5_findBest 38 = .ok (.iload 4, 2) := by decide +kernel
theorem dX5_findBest_40 : decode cX5_findBest 40 = .ok (.iload_n 3, 1) := by decide +kernel
theorem dX5_findBest_41 : decode cX5_findBest 41 = .ok (.if_icmp .ge 17, 3) := by decide +kernel
theorem dX5_findBest_44 : decode cX5_findBest 44 = .ok (.aload_n 0, 1) := by decide +kernel
theorem dX5_findBest_45 : decode cX5_findBest 45 = .ok (.getfield 31, 3) := by decide +kernel
theorem dX5_findBest_48 : decode cX5_findBest 48 = .ok (.iload 4, 2) := by decide +kernel
theorem dX5_findBest_50 : decode cX5_findBest 50 = .ok (.iconst 0, 1) := by decide +kernel
theorem dX5_findBest_51 : decode cX5_findBest 51 = .ok (.iastore, 1) := by decide +kernel
theorem dX5_findBest_52 : decode cX5_findBest 52 = .ok (.iinc 4 1, 3) := by decide +kernel
theorem dX5_findBest_55 : decode cX5_findBest 55 = .ok (.goto (-17), 3) := by decide +kernel
theorem dX5_findBest_58 : decode cX5_findBest 58 = .ok (.iconst 1, 1) := by decide +kernel
theorem dX5_findBest_59 : decode cX5_findBest 59 = .ok (.istore 4, 2) := by decide +kernel
theorem dX5_findBest_61 : decode cX5_findBest 61 = .ok (.iload 4, 2) := by decide +kernel
theorem dX5_findBest_63 : decode cX5_findBest 63 = .ok (.ifCond .eq 63, 3) := by decide +kernel
theorem dX5_findBest_66 : decode cX5_findBest 66 = .ok (.aload_n 0, 1) := by decide +kernel
theorem dX5_findBest_67 : decode cX5_findBest 67 = .ok (.invokevirtual 217, 3) := by decide +kernel
theorem dX5_findBest_70 : decode cX5_findBest 70 = .ok (.ifCond .eq 47, 3) := by decide +kernel
theorem dX5_findBest_73 : decode cX5_findBest 73 = .ok (.aload_n 0, 1) := by decide +kernel
theorem dX5_findBest_74 : decode cX5_findBest 74 = .ok (.invokevirtual 189, 3) := by decide +kernel
theorem dX5_findBest_77 : decode cX5_findBest 77 = .ok (.iload_n 2, 1) := by decide +kernel
theorem dX5_findBest_78 : decode cX5_findBest 78 = .ok (.ifCond .eq 18, 3) := by decide +kernel
theorem dX5_findBest_81 : decode cX5_findBest 81 = .ok (.aload_n 0, 1) := by decide +kernel
theorem dX5_findBest_82 : decode cX5_findBest 82 = .ok (.invokevirtual 220, 3) := by decide +kernel
theorem dX5_findBest_85 : decode cX5_findBest 85 = .ok (.ifCond .eq 7, 3) := by decide +kernel
theorem dX5_findBest_88 : decode cX5_findBest 88 = .ok (.iconst 1, 1) := by decide +kernel
theorem dX5_findBest_89 : decode cX5_findBest 89 = .ok (.goto 11, 3) := by decide +kernel
theorem dX5_findBest_92 : decode cX5_findBest 92 = .ok (.iconst (-1), 1) := by decide +kernel
theorem dX5_findBest_93 : decode cX5_findBest 93 = .ok (.goto 7, 3) := by decide +kernel
theorem dX5_findBest_96 : decode cX5_findBest 96 = .ok (.aload_n 0, 1) := by decide +kernel
theorem dX5_findBest_97 : decode cX5_findBest 97 = .ok (.invokevirtual 202, 3) := by decide +kernel
theorem dX5_findBest_100 : decode cX5_findBest 100 = .ok (.istore 5, 2) := by decide +kernel
theorem dX5_findBest_102 : decode cX5_findBest 102 = .ok (.iload 5, 2) := by decide +kernel
theorem dX5_findBest_104 : decode cX5_findBest 104 = .ok (.aload_n 0, 1) := by decide +kernel
theorem dX5_findBest_105 : decode cX5_findBest 105 = .ok (.getfield 211, 3) := by decide +kernel
theorem dX5_findBest_108 : decode cX5_findBest 108 = .ok (.if_icmp .le 9, 3) := by decide +kernel
theorem dX5_findBest_111 : decode cX5_findBest 111 = .ok (.aload_n 0, 1) := by decide +kernel
theorem dX5_findBest_112 : decode cX5_findBest 112 = .ok (.iload 5, 2) := by decide +kernel
theorem dX5_findBest_114 : decode cX5_findBest 114 = .ok (.invokevirtual 223, 3) := by decide +kernel
theorem dX5_findBest_117 : decode cX5_findBest 117 = .ok (.aload_n 0, 1) := by decide +kernel
theorem dX5_findBest_118 : decode cX5_findBest 118 = .ok (.invokevirtual 227, 3) := by decide +kernel
theorem dX5_findBest_121 : decode cX5_findBest 121 = .ok (.istore 4, 2) := by decide +kernel
theorem dX5_findBest_123 : decode cX5_findBest 123 = .ok (.goto (-62), 3) := by decide +kernel
theorem dX5_findBest_126 : decode cX5_findBest 126 = .ok (.iinc 3 1, 3) := by decide +kernel
theorem dX5_findBest_129 : decode cX5_findBest 129 = .ok (.goto (-112), 3) := by decide +kernel
theorem dX5_findBest_132 : decode cX5_findBest 132 = .ok (.return_, 1) := by decide +kernel
theorem dX5_best_0 : decode cX5_best 0 = .ok (.iload_n 1, 1) := by decide +kernel
theorem dX5_best_1 : decode cX5_best 1 = .ok (.i2l, 1) := by decide +kernel
theorem dX5_best_2 : decode cX5_best 2 = .ok (.lconst 0, 1) := by decide +kernel
theorem dX5_best_3 : decode cX5_best 3 = .ok (.ldc2_w 230, 3) := by decide +kernel
theorem dX5_best_6 : decode cX5_best 6 = .ok (.invokestatic 68, 3) := by decide +kernel
theorem dX5_best_9 : decode cX5_best 9 = .ok (.ifCond .eq 17, 3) := by decide +kernel
theorem dX5_best_12 : decode cX5_best 12 = .ok (.iload_n 2, 1) := by decide +kernel
theorem dX5_best_13 : decode cX5_best 13 = .ok (.i2l, 1) := by decide +kernel
theorem dX5_best_14 : decode cX5_best 14 = .ok (.ldc2_w 232, 3) := by decide +kernel
theorem dX5_best_17 : decode cX5_best 17 = .ok (.ldc2_w 91, 3) := by decide +kernel
theorem dX5_best_20 : decode cX5_best 20 = .ok (.invokestatic 68, 3) := by decide +kernel
theorem dX5_best_23 : decode cX5_best 23 = .ok (.ifCond .ne 5, 3) := by decide +kernel
theorem dX5_best_26 : decode cX5_best 26 = .ok (.iconst (-1), 1) := by decide +kernel
theorem dX5_best_27 : decode cX5_best 27 = .ok (.ireturn, 1) := by decide +kernel
theorem dX5_best_28 : decode cX5_best 28 = .ok (.aload_n 0, 1) := by decide +kernel
theorem dX5_best_29 : decode cX5_best 29 = .ok (.iload_n 1, 1) := by decide +kernel
theorem dX5_best_30 : decode cX5_best 30 = .ok (.iconst 0, 1) := by decide +kernel
theorem dX5_best_31 : decode cX5_best 31 = .ok (.invokevirtual 234, 3) := by decide +kernel
theorem dX5_best_34 : decode cX5_best 34 = .ok (.iload_n 2, 1) := by decide +kernel
theorem dX5_best_35 : decode cX5_best 35 = .ok (.bipush (-2), 2) := by decide +kernel
theorem dX5_best_37 : decode cX5_best 37 = .ok (.if_icmp .ne 10, 3) := by decide +kernel
theorem dX5_best_40 : decode cX5_best 40 = .ok (.aload_n 0, 1) := by decide +kernel
theorem dX5_best_41 : decode cX5_best 41 = .ok (.getfield 211, 3) := by decide +kernel
theorem dX5_best_44 : decode cX5_best 44 = .ok (.goto 34, 3) := by decide +kernel
theorem dX5_best_47 : decode cX5_best 47 = .ok (.iload_n 2, 1) := by decide +kernel
theorem dX5_best_48 : decode cX5_best 48 = .ok (.iconst (-1), 1) := by decide +kernel
theorem dX5_best_49 : decode cX5_best 49 = .ok (.if_icmp .ne 10, 3) := by decide +kernel
theorem dX5_best_52 : decode cX5_best 52 = .ok (.aload_n 0, 1) := by decide +kernel
theorem dX5_best_53 : decode cX5_best 53 = .ok (.getfield 214, 3) := by decide +kernel
theorem dX5_best_56 : decode cX5_best 56 = .ok (.goto 22, 3) := by decide +kernel
theorem dX5_best_59 : decode cX5_best 59 = .ok (.iload_n 2, 1) := by decide +kernel
theorem dX5_best_60 : decode cX5_best 60 = .ok (.aload_n 0, 1) := by decide +kernel
theorem dX5_best_61 : decode cX5_best 61 = .ok (.getfield 214, 3) := by decide +kernel
theorem dX5_best_64 : decode cX5_best 64 = .ok (.if_icmp .ge 12, 3) := by decide +kernel
theorem dX5_best_67 : decode cX5_best 67 = .ok (.aload_n 0, 1) := by decide +kernel
theorem dX5_best_68 : decode cX5_best 68 = .ok (.getfield 46, 3) := by decide +kernel
theorem dX5_best_71 : decode cX5_best 71 = .ok (.iload_n 2, 1) := by decide +kernel
theorem dX5_best_72 : decode cX5_best 72 = .ok (.iaload, 1) := by decide +kernel
theorem dX5_best_73 : decode cX5_best 73 = .ok (.goto 5, 3) := by decide +kernel
theorem dX5_best_76 : decode cX5_best 76 = .ok (.bipush (-4), 2) := by decide +kernel
theorem dX5_best_78 : decode cX5_best 78 = .ok (.ireturn, 1) := by decide +kernel
theorem dX5_parted_0 : decode cX5_parted 0 = .ok (.iload_n 1, 1) := by decide +kernel
theorem dX5_parted_1 : decode cX5_parted 1 = .ok (.i2l, 1) := by decide +kernel
theorem dX5_parted_2 : decode cX5_parted 2 = .ok (.lconst 0, 1) := by decide +kernel
theorem dX5_parted_3 : decode cX5_parted 3 = .ok (.iconst 1, 1) := by decide +kernel
theorem dX5_parted_4 : decode cX5_parted 4 = .ok (.aload_n 0, 1) := by decide +kernel
theorem dX5_parted_5 : decode cX5_parted 5 = .ok (.getfield 64, 3) := by decide +kernel
theorem dX5_parted_8 : decode cX5_parted 8 = .ok (.ishl, 1) := by decide +kernel
theorem dX5_parted_9 : decode cX5_parted 9 = .ok (.iconst 1, 1) := by decide +kernel
theorem dX5_parted_10 : decode cX5_parted 10 = .ok (.isub, 1) := by decide +kernel
theorem dX5_parted_11 : decode cX5_parted 11 = .ok (.i2l, 1) := by decide +kernel
theorem dX5_parted_12 : decode cX5_parted 12 = .ok (.invokestatic 68, 3) := by decide +kernel
theorem dX5_parted_15 : decode cX5_parted 15 = .ok (.ifCond .eq 17, 3) := by decide +kernel
theorem dX5_parted_18 : decode cX5_parted 18 = .ok (.iload_n 2, 1) := by decide +kernel
theorem dX5_parted_19 : decode cX5_parted 19 = .ok (.i2l, 1) := by decide +kernel
theorem dX5_parted_20 : decode cX5_parted 20 = .ok (.ldc2_w 238, 3) := by decide +kernel
theorem dX5_parted_23 : decode cX5_parted 23 = .ok (.ldc2_w 91, 3) := by decide +kernel
theorem dX5_parted_26 : decode cX5_parted 26 = .ok (.invokestatic 68, 3) := by decide +kernel
theorem dX5_parted_29 : decode cX5_parted 29 = .ok (.ifCond .ne 5, 3) := by decide +kernel
theorem dX5_parted_32 : decode cX5_parted 32 = .ok (.iconst (-1), 1) := by decide +kernel
theorem dX5_parted_33 : decode cX5_parted 33 = .ok (.ireturn, 1) := by decide +kernel
theorem dX5_parted_34 : decode cX5_parted 34 = .ok (.aload_n 0, 1) := by decide +kernel
theorem dX5_parted_35 : decode cX5_parted 35 = .ok (.iload_n 1, 1) := by decide +kernel
theorem dX5_parted_36 : decode cX5_parted 36 = .ok (.putfield 208, 3) := by decide +kernel
theorem dX5_parted_39 : decode cX5_parted 39 = .ok (.aload_n 0, 1) := by decide +kernel
theorem dX5_parted_40 : decode cX5_parted 40 = .ok (.iconst 4, 1) := by decide +kernel
theorem dX5_parted_41 : decode cX5_parted 41 = .ok (.iconst 1, 1) := by decide +kernel
theorem dX5_parted_42 : decode cX5_parted 42 = .ok (.invokevirtual 234, 3) := by decide +kernel
theorem dX5_parted_45 : decode cX5_parted 45 = .ok (.aload_n 0, 1) := by decide +kernel
theorem dX5_parted_46 : decode cX5_parted 46 = .ok (.getfield 214, 3) := by decide +kernel
theorem dX5_parted_49 : decode cX5_parted 49 = .ok (.ifCond .ge 8, 3) := by decide +kernel
theorem dX5_parted_52 : decode cX5_parted 52 = .ok (.bipush (-4), 2) := by decide +kernel
theorem dX5_parted_54 : decode cX5_parted 54 = .ok (.goto 33, 3) := by decide +kernel
theorem dX5_parted_57 : decode cX5_parted 57 = .ok (.iload_n 2, 1) := by decide +kernel
theorem dX5_parted_58 : decode cX5_parted 58 = .ok (.ifCond .ge 10, 3) := by decide +kernel
theorem dX5_parted_61 : decode cX5_parted 61 = .ok (.aload_n 0, 1) := by decide +kernel
theorem dX5_parted_62 : decode cX5_parted 62 = .ok (.getfield 214, 3) := by decide +kernel
theorem dX5_parted_65 : decode cX5_parted 65 = .ok (.goto 22, 3) := by decide +kernel
theorem dX5_parted_68 : decode cX5_parted 68 = .ok (.iload_n 2, 1) := by decide +kernel
theorem dX5_parted_69 : decode cX5_parted 69 = .ok (.aload_n 0, 1) := by decide +kernel
theorem dX5_parted_70 : decode cX5_parted 70 = .ok (.getfield 214, 3) := by decide +kernel
theorem dX5_parted_73 : decode cX5_parted 73 = .ok (.if_icmp .ge 12, 3) := by decide +kernel
theorem dX5_parted_76 : decode cX5_parted 76 = .ok (.aload_n 0, 1) := by decide +kernel
theorem dX5_parted_77 : decode cX5_parted 77 = .ok (.getfield 46, 3) := by decide +kernel
theorem dX5_parted_80 : decode cX5_parted 80 = .ok (.iload_n 2, 1) := by decide +kernel
theorem dX5_parted_81 : decode cX5_parted 81 = .ok (.iaload, 1) := by decide +kernel
theorem dX5_parted_82 : decode cX5_parted 82 = .ok (.goto 5, 3) := by decide +kernel
theorem dX5_parted_85 : decode cX5_parted 85 = .ok (.bipush (-4), 2) := by decide +kernel
theorem dX5_parted_87 : decode cX5_parted 87 = .ok (.ireturn, 1) := by decide +kernel
theorem dX5_season_0 : decode cX5_season 0 = .ok (.iload_n 1, 1) := by decide +kernel
theorem dX5_season_1 : decode cX5_season 1 = .ok (.i2l, 1) := by decide +kernel
theorem dX5_season_2 : decode cX5_season 2 = .ok (.lconst 1, 1) := by decide +kernel
theorem dX5_season_3 : decode cX5_season 3 = .ok (.ldc2_w 240, 3) := by decide +kernel
theorem dX5_season_6 : decode cX5_season 6 = .ok (.invokestatic 68, 3) := by decide +kernel
theorem dX5_season_9 : decode cX5_season 9 = .ok (.ifCond .eq 15, 3) := by decide +kernel
theorem dX5_season_12 : decode cX5_season 12 = .ok (.iload_n 2, 1) := by decide +kernel
theorem dX5_season_13 : decode cX5_season 13 = .ok (.i2l, 1) := by decide +kernel
theorem dX5_season_14 : decode cX5_season 14 = .ok (.lconst 0, 1) := by decide +kernel
theorem dX5_season_15 : decode cX5_season 15 = .ok (.ldc2_w 91, 3) := by decide +kernel
theorem dX5_season_18 : decode cX5_season 18 = .ok (.invokestatic 68, 3) := by decide +kernel
theorem dX5_season_21 : decode cX5_season 21 = .ok (.ifCond .ne 5, 3) := by decide +kernel
theorem dX5_season_24 : decode cX5_season 24 = .ok (.iconst (-1), 1) := by decide +kernel
theorem dX5_season_25 : decode cX5_season 25 = .ok (.ireturn, 1) := by decide +kernel
theorem dX5_season_26 : decode cX5_season 26 = .ok (.iconst 0, 1) := by decide +kernel
theorem dX5_season_27 : decode cX5_season 27 = .ok (.istore_n 3, 1) := by decide +kernel
theorem dX5_season_28 : decode cX5_season 28 = .ok (.iconst 0, 1) := by decide +kernel
theorem dX5_season_29 : decode cX5_season 29 = .ok (.istore 4, 2) := by decide +kernel
theorem dX5_season_31 : decode cX5_season 31 = .ok (.iload 4, 2) := by decide +kernel
theorem dX5_season_33 : decode cX5_season 33 = .ok (.iload_n 1, 1) := by decide +kernel
theorem dX5_season_34 : decode cX5_season 34 = .ok (.if_icmp .ge 70, 3) := by decide +kernel
theorem dX5_season_37 : decode cX5_season 37 = .ok (.aload_n 0, 1) := by decide +kernel
theorem dX5_season_38 : decode cX5_season 38 = .ok (.iload_n 2, 1) := by decide +kernel
theorem dX5_season_39 : decode cX5_season 39 = .ok (.iconst 0, 1) := by decide +kernel
theorem dX5_season_40 : decode cX5_season 40 = .ok (.invokevirtual 234, 3) := by decide +kernel
theorem dX5_season_43 : decode cX5_season 43 = .ok (.iload_n 3, 1) := by decide +kernel
theorem dX5_season_44 : decode cX5_season 44 = .ok (.aload_n 0, 1) := by decide +kernel
theorem dX5_season_45 : decode cX5_season 45 = .ok (.getfield 211, 3) := by decide +kernel
theorem dX5_season_48 : decode cX5_season 48 = .ok (.iadd, 1) := by decide +kernel
theorem dX5_season_49 : decode cX5_season 49 = .ok (.istore_n 3, 1) := by decide +kernel
theorem dX5_season_50 : decode cX5_season 50 = .ok (.aload_n 0, 1) := by decide +kernel
theorem dX5_season_51 : decode cX5_season 51 = .ok (.aload_n 0, 1) := by decide +kernel
theorem dX5_season_52 : decode cX5_season 52 = .ok (.getfield 214, 3) := by decide +kernel
theorem dX5_season_55 : decode cX5_season 55 = .ok (.putfield 164, 3) := by decide +kernel
theorem dX5_season_58 : decode cX5_season 58 = .ok (.iconst 0, 1) := by decide +kernel
theorem dX5_season_59 : decode cX5_season 59 = .ok (.istore 5, 2) := by decide +kernel
theorem dX5_season_61 : decode cX5_season 61 = .ok (.iload 5, 2) := by decide +kernel
theorem dX5_season_63 : decode cX5_season 63 = .ok (.aload_n 0, 1) := by decide +kernel
theorem dX5_season_64 : decode cX5_season 64 = .ok (.getfield 214, 3) := by decide +kernel
theorem dX5_season_67 : decode cX5_season 67 = .ok (.if_icmp .ge 23, 3) := by decide +kernel
theorem dX5_season_70 : decode cX5_season 70 = .ok (.aload_n 0, 1) := by decide +kernel
theorem dX5_season_71 : decode cX5_season 71 = .ok (.getfield 31, 3) := by decide +kernel
theorem dX5_season_74 : decode cX5_season 74 = .ok (.iload 5, 2) := by decide +kernel
theorem dX5_season_76 : decode cX5_season 76 = .ok (.aload_n 0, 1) := by decide +kernel
theorem dX5_season_77 : decode cX5_season 77 = .ok (.getfield 46, 3) := by decide +kernel
theorem dX5_season_80 : decode cX5_season 80 = .ok (.iload 5, 2) := by decide +kernel
theorem dX5_season_82 : decode cX5_season 82 = .ok (.iaload, 1) := by decide +kernel
theorem dX5_season_83 : decode cX5_season 83 = .ok (.iastore, 1) := by decide +kernel
theorem dX5_season_84 : decode cX5_season 84 = .ok (.iinc 5 1, 3) := by decide +kernel
theorem dX5_season_87 : decode cX5_season 87 = .ok (.goto (-26), 3) := by decide +kernel
theorem dX5_season_90 : decode cX5_season 90 = .ok (.aload_n 0, 1) := by decide +kernel
theorem dX5_season_91 : decode cX5_season 91 = .ok (.invokevirtual 189, 3) := by decide +kernel
theorem dX5_season_94 : decode cX5_season 94 = .ok (.aload_n 0, 1) := by decide +kernel
theorem dX5_season_95 : decode cX5_season 95 = .ok (.invokevirtual 205, 3) := by decide +kernel
theorem dX5_season_98 : decode cX5_season 98 = .ok (.iinc 4 1, 3) := by decide +kernel
theorem dX5_season_101 : decode cX5_season 101 = .ok (.goto (-70), 3) := by decide +kernel
theorem dX5_season_104 : decode cX5_season 104 = .ok (.iload_n 3, 1) := by decide +kernel
theorem dX5_season_105 : decode cX5_season 105 = .ok (.ireturn, 1) := by decide +kernel
theorem dX5_fits_0 : decode cX5_fits 0 = .ok (.iload_n 1, 1) := by decide +kernel
theorem dX5_fits_1 : decode cX5_fits 1 = .ok (.i2l, 1) := by decide +kernel
theorem dX5_fits_2 : decode cX5_fits 2 = .ok (.lconst 0, 1) := by decide +kernel
theorem dX5_fits_3 : decode cX5_fits 3 = .ok (.aload_n 0, 1) := by decide +kernel
theorem dX5_fits_4 : decode cX5_fits 4 = .ok (.getfield 102, 3) := by decide +kernel
theorem dX5_fits_7 : decode cX5_fits 7 = .ok (.i2l, 1) := by decide +kernel
theorem dX5_fits_8 : decode cX5_fits 8 = .ok (.invokestatic 68, 3) := by decide +kernel
theorem dX5_fits_11 : decode cX5_fits 11 = .ok (.ifCond .ne 7, 3) := by decide +kernel
theorem dX5_fits_14 : decode cX5_fits 14 = .ok (.ldc2_w 238, 3) := by decide +kernel
theorem dX5_fits_17 : decode cX5_fits 17 = .ok (.lreturn, 1) := by decide +kernel
theorem dX5_fits_18 : decode cX5_fits 18 = .ok (.aload_n 0, 1) := by decide +kernel
theorem dX5_fits_19 : decode cX5_fits 19 = .ok (.invokevirtual 183, 3) := by decide +kernel
theorem dX5_fits_22 : decode cX5_fits 22 = .ok (.aload_n 0, 1) := by decide +kernel
theorem dX5_fits_23 : decode cX5_fits 23 = .ok (.invokevirtual 186, 3) := by decide +kernel
theorem dX5_fits_26 : decode cX5_fits 26 = .ok (.lconst 0, 1) := by decide +kernel
theorem dX5_fits_27 : decode cX5_fits 27 = .ok (.lstore_n 2, 1) := by decide +kernel
theorem dX5_fits_28 : decode cX5_fits 28 = .ok (.iconst 1, 1) := by decide +kernel
theorem dX5_fits_29 : decode cX5_fits 29 = .ok (.istore 4, 2) := by decide +kernel
theorem dX5_fits_31 : decode cX5_fits 31 = .ok (.iload 4, 2) := by decide +kernel
theorem dX5_fits_33 : decode cX5_fits 33 = .ok (.bipush 60, 2) := by decide +kernel
theorem dX5_fits_35 : decode cX5_fits 35 = .ok (.if_icmp .gt 62, 3) := by decide +kernel
theorem dX5_fits_38 : decode cX5_fits 38 = .ok (.iconst 0, 1) := by decide +kernel
theorem dX5_fits_39 : decode cX5_fits 39 = .ok (.istore 5, 2) := by decide +kernel
theorem dX5_fits_41 : decode cX5_fits 41 = .ok (.iload 5, 2) := by decide +kernel
theorem dX5_fits_43 : decode cX5_fits 43 = .ok (.aload_n 0, 1) := by decide +kernel
theorem dX5_fits_44 : decode cX5_fits 44 = .ok (.getfield 164, 3) := by decide +kernel
theorem dX5_fits_47 : decode cX5_fits 47 = .ok (.if_icmp .ge 25, 3) := by decide +kernel
theorem dX5_fits_50 : decode cX5_fits 50 = .ok (.aload_n 0, 1) := by decide +kernel
theorem dX5_fits_51 : decode cX5_fits 51 = .ok (.aload_n 0, 1) := by decide +kernel
theorem dX5_fits_52 : decode cX5_fits 52 = .ok (.getfield 31, 3) := by decide +kernel
theorem dX5_fits_55 : decode cX5_fits 55 = .ok (.iload 5, 2) := by decide +kernel
theorem dX5_fits_57 : decode cX5_fits 57 = .ok (.iaload, 1) := by decide +kernel
theorem dX5_fits_58 : decode cX5_fits 58 = .ok (.iload 4, 2) := by decide +kernel
theorem dX5_fits_60 : decode cX5_fits 60 = .ok (.invokevirtual 173, 3) := by decide +kernel
theorem dX5_fits_63 : decode cX5_fits 63 = .ok (.ifCond .eq 9, 3) := by decide +kernel
theorem dX5_fits_66 : decode cX5_fits 66 = .ok (.iinc 5 1, 3) := by decide +kernel
theorem dX5_fits_69 : decode cX5_fits 69 = .ok (.goto (-28), 3) := by decide +kernel
theorem dX5_fits_72 : decode cX5_fits 72 = .ok (.lload_n 2, 1) := by decide +kernel
theorem dX5_fits_73 : decode cX5_fits 73 = .ok (.iload 5, 2) := by decide +kernel
theorem dX5_fits_75 : decode cX5_fits 75 = .ok (.iload_n 1, 1) := by decide +kernel
theorem dX5_fits_76 : decode cX5_fits 76 = .ok (.if_icmp .ne 12, 3) := by decide +kernel
theorem dX5_fits_79 : decode cX5_fits 79 = .ok (.lconst 1, 1) := by decide +kernel
theorem dX5_fits_80 : decode cX5_fits 80 = .ok (.iload 4, 2) := by decide +kernel
theorem dX5_fits_82 : decode cX5_fits 82 = .ok (.iconst 1, 1) := by decide +kernel
theorem dX5_fits_83 : decode cX5_fits 83 = .ok (.isub, 1) := by decide +kernel
theorem dX5_fits_84 : decode cX5_fits 84 = .ok (.lshl, 1) := by decide +kernel
theorem dX5_fits_85 : decode cX5_fits 85 = .ok (.goto 4, 3) := by decide +kernel
theorem dX5_fits_88 : decode cX5_fits 88 = .ok (.lconst 0, 1) := by decide +kernel
theorem dX5_fits_89 : decode cX5_fits 89 = .ok (.lor, 1) := by decide +kernel
theorem dX5_fits_90 : decode cX5_fits 90 = .ok (.lstore_n 2, 1) := by decide +kernel
theorem dX5_fits_91 : decode cX5_fits 91 = .ok (.iinc 4 1, 3) := by decide +kernel
theorem dX5_fits_94 : decode cX5_fits 94 = .ok (.goto (-63), 3) := by decide +kernel
theorem dX5_fits_97 : decode cX5_fits 97 = .ok (.lload_n 2, 1) := by decide +kernel
theorem dX5_fits_98 : decode cX5_fits 98 = .ok (.lreturn, 1) := by decide +kernel
theorem dX5_shares_0 : decode cX5_shares 0 = .ok (.iload_n 1, 1) := by decide +kernel
theorem dX5_shares_1 : decode cX5_shares 1 = .ok (.i2l, 1) := by decide +kernel
theorem dX5_shares_2 : decode cX5_shares 2 = .ok (.lconst 1, 1) := by decide +kernel
theorem dX5_shares_3 : decode cX5_shares 3 = .ok (.ldc2_w 77, 3) := by decide +kernel
theorem dX5_shares_6 : decode cX5_shares 6 = .ok (.invokestatic 68, 3) := by decide +kernel
theorem dX5_shares_9 : decode cX5_shares 9 = .ok (.ifCond .eq 46, 3) := by decide +kernel
theorem dX5_shares_12 : decode cX5_shares 12 = .ok (.iload_n 2, 1) := by decide +kernel
theorem dX5_shares_13 : decode cX5_shares 13 = .ok (.i2l, 1) := by decide +kernel
theorem dX5_shares_14 : decode cX5_shares 14 = .ok (.lconst 1, 1) := by decide +kernel
theorem dX5_shares_15 : decode cX5_shares 15 = .ok (.ldc2_w 242, 3) := by decide +kernel
theorem dX5_shares_18 : decode cX5_shares 18 = .ok (.invokestatic 68, 3) := by decide +kernel
theorem dX5_shares_21 : decode cX5_shares 21 = .ok (.ifCond .eq 34, 3) := by decide +kernel
theorem dX5_shares_24 : decode cX5_shares 24 = .ok (.iload_n 3, 1) := by decide +kernel
theorem dX5_shares_25 : decode cX5_shares 25 = .ok (.i2l, 1) := by decide +kernel
theorem dX5_shares_26 : decode cX5_shares 26 = .ok (.lconst 1, 1) := by decide +kernel
theorem dX5_shares_27 : decode cX5_shares 27 = .ok (.ldc2_w 244, 3) := by decide +kernel
theorem dX5_shares_30 : decode cX5_shares 30 = .ok (.invokestatic 68, 3) := by decide +kernel
theorem dX5_shares_33 : decode cX5_shares 33 = .ok (.ifCond .eq 22, 3) := by decide +kernel
theorem dX5_shares_36 : decode cX5_shares 36 = .ok (.iload 4, 2) := by decide +kernel
theorem dX5_shares_38 : decode cX5_shares 38 = .ok (.i2l, 1) := by decide +kernel
theorem dX5_shares_39 : decode cX5_shares 39 = .ok (.lconst 1, 1) := by decide +kernel
theorem dX5_shares_40 : decode cX5_shares 40 = .ok (.ldc2_w 244, 3) := by decide +kernel
theorem dX5_shares_43 : decode cX5_shares 43 = .ok (.invokestatic 68, 3) := by decide +kernel
theorem dX5_shares_46 : decode cX5_shares 46 = .ok (.ifCond .eq 9, 3) := by decide +kernel
theorem dX5_shares_49 : decode cX5_shares 49 = .ok (.iload_n 3, 1) := by decide +kernel
theorem dX5_shares_50 : decode cX5_shares 50 = .ok (.iload 4, 2) := by decide +kernel
theorem dX5_shares_52 : decode cX5_shares 52 = .ok (.if_icmp .ne 5, 3) := by decide +kernel
theorem dX5_shares_55 : decode cX5_shares 55 = .ok (.iconst (-1), 1) := by decide +kernel
theorem dX5_shares_56 : decode cX5_shares 56 = .ok (.ireturn, 1) := by decide +kernel
theorem dX5_shares_57 : decode cX5_shares 57 = .ok (.iload_n 2, 1) := by decide +kernel
theorem dX5_shares_58 : decode cX5_shares 58 = .ok (.iload_n 1, 1) := by decide +kernel
theorem dX5_shares_59 : decode cX5_shares 59 = .ok (.iload 4, 2) := by decide +kernel
theorem dX5_shares_61 : decode cX5_shares 61 = .ok (.imul, 1) := by decide +kernel
theorem dX5_shares_62 : decode cX5_shares 62 = .ok (.isub, 1) := by decide +kernel
theorem dX5_shares_63 : decode cX5_shares 63 = .ok (.istore 5, 2) := by decide +kernel
theorem dX5_shares_65 : decode cX5_shares 65 = .ok (.iload_n 3, 1) := by decide +kernel
theorem dX5_shares_66 : decode cX5_shares 66 = .ok (.iload 4, 2) := by decide +kernel
theorem dX5_shares_68 : decode cX5_shares 68 = .ok (.isub, 1) := by decide +kernel
theorem dX5_shares_69 : decode cX5_shares 69 = .ok (.istore 6, 2) := by decide +kernel
theorem dX5_shares_71 : decode cX5_shares 71 = .ok (.iload 5, 2) := by decide +kernel
theorem dX5_shares_73 : decode cX5_shares 73 = .ok (.iload 6, 2) := by decide +kernel
theorem dX5_shares_75 : decode cX5_shares 75 = .ok (.irem, 1) := by decide +kernel
theorem dX5_shares_76 : decode cX5_shares 76 = .ok (.ifCond .ne 18, 3) := by decide +kernel
theorem dX5_shares_79 : decode cX5_shares 79 = .ok (.iload 5, 2) := by decide +kernel
theorem dX5_shares_81 : decode cX5_shares 81 = .ok (.iload 6, 2) := by decide +kernel
theorem dX5_shares_83 : decode cX5_shares 83 = .ok (.idiv, 1) := by decide +kernel
theorem dX5_shares_84 : decode cX5_shares 84 = .ok (.i2l, 1) := by decide +kernel
theorem dX5_shares_85 : decode cX5_shares 85 = .ok (.lconst 0, 1) := by decide +kernel
theorem dX5_shares_86 : decode cX5_shares 86 = .ok (.iload_n 1, 1) := by decide +kernel
theorem dX5_shares_87 : decode cX5_shares 87 = .ok (.i2l, 1) := by decide +kernel
theorem dX5_shares_88 : decode cX5_shares 88 = .ok (.invokestatic 68, 3) := by decide +kernel
theorem dX5_shares_91 : decode cX5_shares 91 = .ok (.ifCond .ne 8, 3) := by decide +kernel
theorem dX5_shares_94 : decode cX5_shares 94 = .ok (.bipush (-4), 2) := by decide +kernel
theorem dX5_shares_96 : decode cX5_shares 96 = .ok (.goto 8, 3) := by decide +kernel
theorem dX5_shares_99 : decode cX5_shares 99 = .ok (.iload 5, 2) := by decide +kernel
theorem dX5_shares_101 : decode cX5_shares 101 = .ok (.iload 6, 2) := by decide +kernel
theorem dX5_shares_103 : decode cX5_shares 103 = .ok (.idiv, 1) := by decide +kernel
theorem dX5_shares_104 : decode cX5_shares 104 = .ok (.ireturn, 1) := by decide +kernel
theorem dX5_carried_0 : decode cX5_carried 0 = .ok (.iload_n 1, 1) := by decide +kernel
theorem dX5_carried_1 : decode cX5_carried 1 = .ok (.bipush 18, 2) := by decide +kernel
theorem dX5_carried_3 : decode cX5_carried 3 = .ok (.if_icmp .ge 137, 3) := by decide +kernel
theorem dX5_carried_6 : decode cX5_carried 6 = .ok (.iload_n 1, 1) := by decide +kernel
theorem dX5_carried_7 : decode cX5_carried 7 = .ok (.bipush 6, 2) := by decide +kernel
theorem dX5_carried_9 : decode cX5_carried 9 = .ok (.irem, 1) := by decide +kernel
theorem dX5_carried_10 : decode cX5_carried 10 = .ok (.istore 4, 2) := by decide +kernel
theorem dX5_carried_12 : decode cX5_carried 12 = .ok (.iload_n 1, 1) := by decide +kernel
theorem dX5_carried_13 : decode cX5_carried 13 = .ok (.bipush 6, 2) := by decide +kernel
theorem dX5_carried_15 : decode cX5_carried 15 = .ok (.idiv, 1) := by decide +kernel
theorem dX5_carried_16 : decode cX5_carried 16 = .ok (.istore 5, 2) := by decide +kernel
theorem dX5_carried_18 : decode cX5_carried 18 = .ok (.aload_n 0, 1) := by decide +kernel
theorem dX5_carried_19 : decode cX5_carried 19 = .ok (.getfield 7, 3) := by decide +kernel
theorem dX5_carried_22 : decode cX5_carried 22 = .ok (.iload 4, 2) := by decide +kernel
theorem dX5_carried_24 : decode cX5_carried 24 = .ok (.iload_n 3, 1) := by decide +kernel
theorem dX5_carried_25 : decode cX5_carried 25 = .ok (.ifCond .eq 12, 3) := by decide +kernel
theorem dX5_carried_28 : decode cX5_carried 28 = .ok (.iload 5, 2) := by decide +kernel
theorem dX5_carried_30 : decode cX5_carried 30 = .ok (.ifCond .ne 7, 3) := by decide +kernel
theorem dX5_carried_33 : decode cX5_carried 33 = .ok (.iload_n 2, 1) := by decide +kernel
theorem dX5_carried_34 : decode cX5_carried 34 = .ok (.goto 10, 3) := by decide +kernel
theorem dX5_carried_37 : decode cX5_carried 37 = .ok (.aload_n 0, 1) := by decide +kernel
theorem dX5_carried_38 : decode cX5_carried 38 = .ok (.getfield 7, 3) := by decide +kernel
theorem dX5_carried_41 : decode cX5_carried 41 = .ok (.iload 4, 2) := by decide +kernel
theorem dX5_carried_43 : decode cX5_carried 43 = .ok (.iaload, 1) := by decide +kernel
theorem dX5_carried_44 : decode cX5_carried 44 = .ok (.iastore, 1) := by decide +kernel
theorem dX5_carried_45 : decode cX5_carried 45 = .ok (.aload_n 0, 1) := by decide +kernel
theorem dX5_carried_46 : decode cX5_carried 46 = .ok (.getfield 13, 3) := by decide +kernel
theorem dX5_carried_49 : decode cX5_carried 49 = .ok (.iload 4, 2) := by decide +kernel
theorem dX5_carried_51 : decode cX5_carried 51 = .ok (.iload_n 3, 1) := by decide +kernel
theorem dX5_carried_52 : decode cX5_carried 52 = .ok (.ifCond .eq 13, 3) := by decide +kernel
theorem dX5_carried_55 : decode cX5_carried 55 = .ok (.iload 5, 2) := by decide +kernel
theorem dX5_carried_57 : decode cX5_carried 57 = .ok (.iconst 1, 1) := by decide +kernel
theorem dX5_carried_58 : decode cX5_carried 58 = .ok (.if_icmp .ne 7, 3) := by decide +kernel
theorem dX5_carried_61 : decode cX5_carried 61 = .ok (.iload_n 2, 1) := by decide +kernel
theorem dX5_carried_62 : decode cX5_carried 62 = .ok (.goto 10, 3) := by decide +kernel
theorem dX5_carried_65 : decode cX5_carried 65 = .ok (.aload_n 0, 1) := by decide +kernel
theorem dX5_carried_66 : decode cX5_carried 66 = .ok (.getfield 13, 3) := by decide +kernel
theorem dX5_carried_69 : decode cX5_carried 69 = .ok (.iload 4, 2) := by decide +kernel
theorem dX5_carried_71 : decode cX5_carried 71 = .ok (.iaload, 1) := by decide +kernel
theorem dX5_carried_72 : decode cX5_carried 72 = .ok (.iastore, 1) := by decide +kernel
theorem dX5_carried_73 : decode cX5_carried 73 = .ok (.aload_n 0, 1) := by decide +kernel
theorem dX5_carried_74 : decode cX5_carried 74 = .ok (.getfield 16, 3) := by decide +kernel
theorem dX5_carried_77 : decode cX5_carried 77 = .ok (.iload 4, 2) := by decide +kernel
theorem dX5_carried_79 : decode cX5_carried 79 = .ok (.iload_n 3, 1) := by decide +kernel
theorem dX5_carried_80 : decode cX5_carried 80 = .ok (.ifCond .eq 13, 3) := by decide +kernel
theorem dX5_carried_83 : decode cX5_carried 83 = .ok (.iload 5, 2) := by decide +kernel
theorem dX5_carried_85 : decode cX5_carried 85 = .ok (.iconst 2, 1) := by decide +kernel
theorem dX5_carried_86 : decode cX5_carried 86 = .ok (.if_icmp .ne 7, 3) := by decide +kernel
theorem dX5_carried_89 : decode cX5_carried 89 = .ok (.iload_n 2, 1) := by decide +kernel
theorem dX5_carried_90 : decode cX5_carried 90 = .ok (.goto 10, 3) := by decide +kernel
theorem dX5_carried_93 : decode cX5_carried 93 = .ok (.aload_n 0, 1) := by decide +kernel
theorem dX5_carried_94 : decode cX5_carried 94 = .ok (.getfield 16, 3) := by decide +kernel
theorem dX5_carried_97 : decode cX5_carried 97 = .ok (.iload 4, 2) := by decide +kernel
theorem dX5_carried_99 : decode cX5_carried 99 = .ok (.iaload, 1) := by decide +kernel
theorem dX5_carried_100 : decode cX5_carried 100 = .ok (.iastore, 1) := by decide +kernel
theorem dX5_carried_101 : decode cX5_carried 101 = .ok (.iload 5, 2) := by decide +kernel
theorem dX5_carried_103 : decode cX5_carried 103 = .ok (.ifCond .ne 13, 3) := by decide +kernel
theorem dX5_carried_106 : decode cX5_carried 106 = .ok (.aload_n 0, 1) := by decide +kernel
theorem dX5_carried_107 : decode cX5_carried 107 = .ok (.getfield 7, 3) := by decide +kernel
theorem dX5_carried_110 : decode cX5_carried 110 = .ok (.iload 4, 2) := by decide +kernel
theorem dX5_carried_112 : decode cX5_carried 112 = .ok (.iaload, 1) := by decide +kernel
theorem dX5_carried_113 : decode cX5_carried 113 = .ok (.goto 26, 3) := by decide +kernel
theorem dX5_carried_116 : decode cX5_carried 116 = .ok (.iload 5, 2) := by decide +kernel
theorem dX5_carried_118 : decode cX5_carried 118 = .ok (.iconst 1, 1) := by decide +kernel
theorem dX5_carried_119 : decode cX5_carried 119 = .ok (.if_icmp .ne 13, 3) := by decide +kernel
theorem dX5_carried_122 : decode cX5_carried 122 = .ok (.aload_n 0, 1) := by decide +kernel
theorem dX5_carried_123 : decode cX5_carried 123 = .ok (.getfield 13, 3) := by decide +kernel
theorem dX5_carried_126 : decode cX5_carried 126 = .ok (.iload 4, 2) := by decide +kernel
theorem dX5_carried_128 : decode cX5_carried 128 = .ok (.iaload, 1) := by decide +kernel
theorem dX5_carried_129 : decode cX5_carried 129 = .ok (.goto 10, 3) := by decide +kernel
theorem dX5_carried_132 : decode cX5_carried 132 = .ok (.aload_n 0, 1) := by decide +kernel
theorem dX5_carried_133 : decode cX5_carried 133 = .ok (.getfield 16, 3) := by decide +kernel
theorem dX5_carried_136 : decode cX5_carried 136 = .ok (.iload 4, 2) := by decide +kernel
theorem dX5_carried_138 : decode cX5_carried 138 = .ok (.iaload, 1) := by decide +kernel
theorem dX5_carried_139 : decode cX5_carried 139 = .ok (.ireturn, 1) := by decide +kernel
theorem dX5_carried_140 : decode cX5_carried 140 = .ok (.iload_n 1, 1) := by decide +kernel
theorem dX5_carried_141 : decode cX5_carried 141 = .ok (.bipush 50, 2) := by decide +kernel
theorem dX5_carried_143 : decode cX5_carried 143 = .ok (.if_icmp .ge 39, 3) := by decide +kernel
theorem dX5_carried_146 : decode cX5_carried 146 = .ok (.aload_n 0, 1) := by decide +kernel
theorem dX5_carried_147 : decode cX5_carried 147 = .ok (.getfield 19, 3) := by decide +kernel
theorem dX5_carried_150 : decode cX5_carried 150 = .ok (.iload_n 1, 1) := by decide +kernel
theorem dX5_carried_151 : decode cX5_carried 151 = .ok (.bipush 18, 2) := by decide +kernel
theorem dX5_carried_153 : decode cX5_carried 153 = .ok (.isub, 1) := by decide +kernel
theorem dX5_carried_154 : decode cX5_carried 154 = .ok (.iload_n 3, 1) := by decide +kernel
theorem dX5_carried_155 : decode cX5_carried 155 = .ok (.ifCond .eq 7, 3) := by decide +kernel
theorem dX5_carried_158 : decode cX5_carried 158 = .ok (.iload_n 2, 1) := by decide +kernel
theorem dX5_carried_159 : decode cX5_carried 159 = .ok (.goto 12, 3) := by decide +kernel
theorem dX5_carried_162 : decode cX5_carried 162 = .ok (.aload_n 0, 1) := by decide +kernel
theorem dX5_carried_163 : decode cX5_carried 163 = .ok (.getfield 19, 3) := by decide +kernel
theorem dX5_carried_166 : decode cX5_carried 166 = .ok (.iload_n 1, 1) := by decide +kernel
theorem dX5_carried_167 : decode cX5_carried 167 = .ok (.bipush 18, 2) := by decide +kernel
theorem dX5_carried_169 : decode cX5_carried 169 = .ok (.isub, 1) := by decide +kernel
theorem dX5_carried_170 : decode cX5_carried 170 = .ok (.iaload, 1) := by decide +kernel
theorem dX5_carried_171 : decode cX5_carried 171 = .ok (.iastore, 1) := by decide +kernel
theorem dX5_carried_172 : decode cX5_carried 172 = .ok (.aload_n 0, 1) := by decide +kernel
theorem dX5_carried_173 : decode cX5_carried 173 = .ok (.getfield 19, 3) := by decide +kernel
theorem dX5_carried_176 : decode cX5_carried 176 = .ok (.iload_n 1, 1) := by decide +kernel
theorem dX5_carried_177 : decode cX5_carried 177 = .ok (.bipush 18, 2) := by decide +kernel
theorem dX5_carried_179 : decode cX5_carried 179 = .ok (.isub, 1) := by decide +kernel
theorem dX5_carried_180 : decode cX5_carried 180 = .ok (.iaload, 1) := by decide +kernel
theorem dX5_carried_181 : decode cX5_carried 181 = .ok (.ireturn, 1) := by decide +kernel
theorem dX5_carried_182 : decode cX5_carried 182 = .ok (.iload_n 1, 1) := by decide +kernel
theorem dX5_carried_183 : decode cX5_carried 183 = .ok (.bipush 56, 2) := by decide +kernel
theorem dX5_carried_185 : decode cX5_carried 185 = .ok (.if_icmp .ge 39, 3) := by decide +kernel
theorem dX5_carried_188 : decode cX5_carried 188 = .ok (.aload_n 0, 1) := by decide +kernel
theorem dX5_carried_189 : decode cX5_carried 189 = .ok (.getfield 22, 3) := by decide +kernel
theorem dX5_carried_192 : decode cX5_carried 192 = .ok (.iload_n 1, 1) := by decide +kernel
theorem dX5_carried_193 : decode cX5_carried 193 = .ok (.bipush 50, 2) := by decide +kernel
theorem dX5_carried_195 : decode cX5_carried 195 = .ok (.isub, 1) := by decide +kernel
theorem dX5_carried_196 : decode cX5_carried 196 = .ok (.iload_n 3, 1) := by decide +kernel
theorem dX5_carried_197 : decode cX5_carried 197 = .ok (.ifCond .eq 7, 3) := by decide +kernel
theorem dX5_carried_200 : decode cX5_carried 200 = .ok (.iload_n 2, 1) := by decide +kernel
theorem dX5_carried_201 : decode cX5_carried 201 = .ok (.goto 12, 3) := by decide +kernel
theorem dX5_carried_204 : decode cX5_carried 204 = .ok (.aload_n 0, 1) := by decide +kernel
theorem dX5_carried_205 : decode cX5_carried 205 = .ok (.getfield 22, 3) := by decide +kernel
theorem dX5_carried_208 : decode cX5_carried 208 = .ok (.iload_n 1, 1) := by decide +kernel
theorem dX5_carried_209 : decode cX5_carried 209 = .ok (.bipush 50, 2) := by decide +kernel
theorem dX5_carried_211 : decode cX5_carried 211 = .ok (.isub, 1) := by decide +kernel
theorem dX5_carried_212 : decode cX5_carried 212 = .ok (.iaload, 1) := by decide +kernel
theorem dX5_carried_213 : decode cX5_carried 213 = .ok (.iastore, 1) := by decide +kernel
theorem dX5_carried_214 : decode cX5_carried 214 = .ok (.aload_n 0, 1) := by decide +kernel
theorem dX5_carried_215 : decode cX5_carried 215 = .ok (.getfield 22, 3) := by decide +kernel
theorem dX5_carried_218 : decode cX5_carried 218 = .ok (.iload_n 1, 1) := by decide +kernel
theorem dX5_carried_219 : decode cX5_carried 219 = .ok (.bipush 50, 2) := by decide +kernel
theorem dX5_carried_221 : decode cX5_carried 221 = .ok (.isub, 1) := by decide +kernel
theorem dX5_carried_222 : decode cX5_carried 222 = .ok (.iaload, 1) := by decide +kernel
theorem dX5_carried_223 : decode cX5_carried 223 = .ok (.ireturn, 1) := by decide +kernel
theorem dX5_carried_224 : decode cX5_carried 224 = .ok (.aload_n 0, 1) := by decide +kernel
theorem dX5_carried_225 : decode cX5_carried 225 = .ok (.iload_n 3, 1) := by decide +kernel
theorem dX5_carried_226 : decode cX5_carried 226 = .ok (.ifCond .eq 13, 3) := by decide +kernel
theorem dX5_carried_229 : decode cX5_carried 229 = .ok (.iload_n 1, 1) := by decide +kernel
theorem dX5_carried_230 : decode cX5_carried 230 = .ok (.bipush 56, 2) := by decide +kernel
theorem dX5_carried_232 : decode cX5_carried 232 = .ok (.if_icmp .ne 7, 3) := by decide +kernel
theorem dX5_carried_235 : decode cX5_carried 235 = .ok (.iload_n 2, 1) := by decide +kernel
theorem dX5_carried_236 : decode cX5_carried 236 = .ok (.goto 7, 3) := by decide +kernel
theorem dX5_carried_239 : decode cX5_carried 239 = .ok (.aload_n 0, 1) := by decide +kernel
theorem dX5_carried_240 : decode cX5_carried 240 = .ok (.getfield 64, 3) := by decide +kernel
theorem dX5_carried_243 : decode cX5_carried 243 = .ok (.putfield 64, 3) := by decide +kernel
theorem dX5_carried_246 : decode cX5_carried 246 = .ok (.aload_n 0, 1) := by decide +kernel
theorem dX5_carried_247 : decode cX5_carried 247 = .ok (.iload_n 3, 1) := by decide +kernel
theorem dX5_carried_248 : decode cX5_carried 248 = .ok (.ifCond .eq 13, 3) := by decide +kernel
theorem dX5_carried_251 : decode cX5_carried 251 = .ok (.iload_n 1, 1) := by decide +kernel
theorem dX5_carried_252 : decode cX5_carried 252 = .ok (.bipush 57, 2) := by decide +kernel
theorem dX5_carried_254 : decode cX5_carried 254 = .ok (.if_icmp .ne 7, 3) := by decide +kernel
theorem dX5_carried_257 : decode cX5_carried 257 = .ok (.iload_n 2, 1) := by decide +kernel
theorem dX5_carried_258 : decode cX5_carried 258 = .ok (.goto 7, 3) := by decide +kernel
theorem dX5_carried_261 : decode cX5_carried 261 = .ok (.aload_n 0, 1) := by decide +kernel
theorem dX5_carried_262 : decode cX5_carried 262 = .ok (.getfield 72, 3) := by decide +kernel
theorem dX5_carried_265 : decode cX5_carried 265 = .ok (.putfield 72, 3) := by decide +kernel
theorem dX5_carried_268 : decode cX5_carried 268 = .ok (.aload_n 0, 1) := by decide +kernel
theorem dX5_carried_269 : decode cX5_carried 269 = .ok (.iload_n 3, 1) := by decide +kernel
theorem dX5_carried_270 : decode cX5_carried 270 = .ok (.ifCond .eq 13, 3) := by decide +kernel
theorem dX5_carried_273 : decode cX5_carried 273 = .ok (.iload_n 1, 1) := by decide +kernel
theorem dX5_carried_274 : decode cX5_carried 274 = .ok (.bipush 58, 2) := by decide +kernel
theorem dX5_carried_276 : decode cX5_carried 276 = .ok (.if_icmp .ne 7, 3) := by decide +kernel
theorem dX5_carried_279 : decode cX5_carried 279 = .ok (.iload_n 2, 1) := by decide +kernel
theorem dX5_carried_280 : decode cX5_carried 280 = .ok (.goto 7, 3) := by decide +kernel
theorem dX5_carried_283 : decode cX5_carried 283 = .ok (.aload_n 0, 1) := by decide +kernel
theorem dX5_carried_284 : decode cX5_carried 284 = .ok (.getfield 102, 3) := by decide +kernel
theorem dX5_carried_287 : decode cX5_carried 287 = .ok (.putfield 102, 3) := by decide +kernel
theorem dX5_carried_290 : decode cX5_carried 290 = .ok (.aload_n 0, 1) := by decide +kernel
theorem dX5_carried_291 : decode cX5_carried 291 = .ok (.iload_n 3, 1) := by decide +kernel
theorem dX5_carried_292 : decode cX5_carried 292 = .ok (.ifCond .eq 13, 3) := by decide +kernel
theorem dX5_carried_295 : decode cX5_carried 295 = .ok (.iload_n 1, 1) := by decide +kernel
theorem dX5_carried_296 : decode cX5_carried 296 = .ok (.bipush 59, 2) := by decide +kernel
theorem dX5_carried_298 : decode cX5_carried 298 = .ok (.if_icmp .ne 7, 3) := by decide +kernel
theorem dX5_carried_301 : decode cX5_carried 301 = .ok (.iload_n 2, 1) := by decide +kernel
theorem dX5_carried_302 : decode cX5_carried 302 = .ok (.goto 7, 3) := by decide +kernel
theorem dX5_carried_305 : decode cX5_carried 305 = .ok (.aload_n 0, 1) := by decide +kernel
theorem dX5_carried_306 : decode cX5_carried 306 = .ok (.getfield 105, 3) := by decide +kernel
theorem dX5_carried_309 : decode cX5_carried 309 = .ok (.putfield 105, 3) := by decide +kernel
theorem dX5_carried_312 : decode cX5_carried 312 = .ok (.iload_n 1, 1) := by decide +kernel
theorem dX5_carried_313 : decode cX5_carried 313 = .ok (.bipush 56, 2) := by decide +kernel
theorem dX5_carried_315 : decode cX5_carried 315 = .ok (.if_icmp .ne 10, 3) := by decide +kernel
theorem dX5_carried_318 : decode cX5_carried 318 = .ok (.aload_n 0, 1) := by decide +kernel
theorem dX5_carried_319 : decode cX5_carried 319 = .ok (.getfield 64, 3) := by decide +kernel
theorem dX5_carried_322 : decode cX5_carried 322 = .ok (.goto 33, 3) := by decide +kernel
theorem dX5_carried_325 : decode cX5_carried 325 = .ok (.iload_n 1, 1) := by decide +kernel
theorem dX5_carried_326 : decode cX5_carried 326 = .ok (.bipush 57, 2) := by decide +kernel
theorem dX5_carried_328 : decode cX5_carried 328 = .ok (.if_icmp .ne 10, 3) := by decide +kernel
theorem dX5_carried_331 : decode cX5_carried 331 = .ok (.aload_n 0, 1) := by decide +kernel
theorem dX5_carried_332 : decode cX5_carried 332 = .ok (.getfield 72, 3) := by decide +kernel
theorem dX5_carried_335 : decode cX5_carried 335 = .ok (.goto 20, 3) := by decide +kernel
theorem dX5_carried_338 : decode cX5_carried 338 = .ok (.iload_n 1, 1) := by decide +kernel
theorem dX5_carried_339 : decode cX5_carried 339 = .ok (.bipush 58, 2) := by decide +kernel
theorem dX5_carried_341 : decode cX5_carried 341 = .ok (.if_icmp .ne 10, 3) := by decide +kernel
theorem dX5_carried_344 : decode cX5_carried 344 = .ok (.aload_n 0, 1) := by decide +kernel
theorem dX5_carried_345 : decode cX5_carried 345 = .ok (.getfield 102, 3) := by decide +kernel
theorem dX5_carried_348 : decode cX5_carried 348 = .ok (.goto 7, 3) := by decide +kernel
theorem dX5_carried_351 : decode cX5_carried 351 = .ok (.aload_n 0, 1) := by decide +kernel
theorem dX5_carried_352 : decode cX5_carried 352 = .ok (.getfield 105, 3) := by decide +kernel
theorem dX5_carried_355 : decode cX5_carried 355 = .ok (.ireturn, 1) := by decide +kernel
theorem dX5_image_0 : decode cX5_image 0 = .ok (.iconst 0, 1) := by decide +kernel
theorem dX5_image_1 : decode cX5_image 1 = .ok (.istore_n 1, 1) := by decide +kernel
theorem dX5_image_2 : decode cX5_image 2 = .ok (.iload_n 1, 1) := by decide +kernel
theorem dX5_image_3 : decode cX5_image 3 = .ok (.bipush 60, 2) := by decide +kernel
theorem dX5_image_5 : decode cX5_image 5 = .ok (.if_icmp .ge 22, 3) := by decide +kernel
theorem dX5_image_8 : decode cX5_image 8 = .ok (.aload_n 0, 1) := by decide +kernel
theorem dX5_image_9 : decode cX5_image 9 = .ok (.getfield 49, 3) := by decide +kernel
theorem dX5_image_12 : decode cX5_image 12 = .ok (.iload_n 1, 1) := by decide +kernel
theorem dX5_image_13 : decode cX5_image 13 = .ok (.aload_n 0, 1) := by decide +kernel
theorem dX5_image_14 : decode cX5_image 14 = .ok (.iload_n 1, 1) := by decide +kernel
theorem dX5_image_15 : decode cX5_image 15 = .ok (.iconst 0, 1) := by decide +kernel
theorem dX5_image_16 : decode cX5_image 16 = .ok (.iconst 0, 1) := by decide +kernel
theorem dX5_image_17 : decode cX5_image 17 = .ok (.invokevirtual 246, 3) := by decide +kernel
theorem dX5_image_20 : decode cX5_image 20 = .ok (.iastore, 1) := by decide +kernel
theorem dX5_image_21 : decode cX5_image 21 = .ok (.iinc 1 1, 3) := by decide +kernel
theorem dX5_image_24 : decode cX5_image 24 = .ok (.goto (-22), 3) := by decide +kernel
theorem dX5_image_27 : decode cX5_image 27 = .ok (.aload_n 0, 1) := by decide +kernel
theorem dX5_image_28 : decode cX5_image 28 = .ok (.iconst 1, 1) := by decide +kernel
theorem dX5_image_29 : decode cX5_image 29 = .ok (.putfield 250, 3) := by decide +kernel
theorem dX5_image_32 : decode cX5_image 32 = .ok (.iconst 1, 1) := by decide +kernel
theorem dX5_image_33 : decode cX5_image 33 = .ok (.ireturn, 1) := by decide +kernel
theorem dX5_restore_0 : decode cX5_restore 0 = .ok (.aload_n 0, 1) := by decide +kernel
theorem dX5_restore_1 : decode cX5_restore 1 = .ok (.getfield 250, 3) := by decide +kernel
theorem dX5_restore_4 : decode cX5_restore 4 = .ok (.ifCond .ne 6, 3) := by decide +kernel
theorem dX5_restore_7 : decode cX5_restore 7 = .ok (.bipush (-4), 2) := by decide +kernel
theorem dX5_restore_9 : decode cX5_restore 9 = .ok (.ireturn, 1) := by decide +kernel
theorem dX5_restore_10 : decode cX5_restore 10 = .ok (.iconst 0, 1) := by decide +kernel
theorem dX5_restore_11 : decode cX5_restore 11 = .ok (.istore_n 1, 1) := by decide +kernel
theorem dX5_restore_12 : decode cX5_restore 12 = .ok (.iload_n 1, 1) := by decide +kernel
theorem dX5_restore_13 : decode cX5_restore 13 = .ok (.bipush 60, 2) := by decide +kernel
theorem dX5_restore_15 : decode cX5_restore 15 = .ok (.if_icmp .ge 22, 3) := by decide +kernel
theorem dX5_restore_18 : decode cX5_restore 18 = .ok (.aload_n 0, 1) := by decide +kernel
theorem dX5_restore_19 : decode cX5_restore 19 = .ok (.iload_n 1, 1) := by decide +kernel
theorem dX5_restore_20 : decode cX5_restore 20 = .ok (.aload_n 0, 1) := by decide +kernel
theorem dX5_restore_21 : decode cX5_restore 21 = .ok (.getfield 49, 3) := by decide +kernel
theorem dX5_restore_24 : decode cX5_restore 24 = .ok (.iload_n 1, 1) := by decide +kernel
theorem dX5_restore_25 : decode cX5_restore 25 = .ok (.iaload, 1) := by decide +kernel
theorem dX5_restore_26 : decode cX5_restore 26 = .ok (.iconst 1, 1) := by decide +kernel
theorem dX5_restore_27 : decode cX5_restore 27 = .ok (.invokevirtual 246, 3) := by decide +kernel
theorem dX5_restore_30 : decode cX5_restore 30 = .ok (.pop, 1) := by decide +kernel
theorem dX5_restore_31 : decode cX5_restore 31 = .ok (.iinc 1 1, 3) := by decide +kernel
theorem dX5_restore_34 : decode cX5_restore 34 = .ok (.goto (-22), 3) := by decide +kernel
theorem dX5_restore_37 : decode cX5_restore 37 = .ok (.iconst 1, 1) := by decide +kernel
theorem dX5_restore_38 : decode cX5_restore 38 = .ok (.ireturn, 1) := by decide +kernel
theorem dX5_isSheet_0 : decode cX5_isSheet 0 = .ok (.iload_n 0, 1) := by decide +kernel
theorem dX5_isSheet_1 : decode cX5_isSheet 1 = .ok (.i2l, 1) := by decide +kernel
theorem dX5_isSheet_2 : decode cX5_isSheet 2 = .ok (.lconst 0, 1) := by decide +kernel
theorem dX5_isSheet_3 : decode cX5_isSheet 3 = .ok (.ldc2_w 91, 3) := by decide +kernel
theorem dX5_isSheet_6 : decode cX5_isSheet 6 = .ok (.invokestatic 68, 3) := by decide +kernel
theorem dX5_isSheet_9 : decode cX5_isSheet 9 = .ok (.ifCond .eq 19, 3) := by decide +kernel
theorem dX5_isSheet_12 : decode cX5_isSheet 12 = .ok (.iload_n 1, 1) := by decide +kernel
theorem dX5_isSheet_13 : decode cX5_isSheet 13 = .ok (.i2l, 1) := by decide +kernel
theorem dX5_isSheet_14 : decode cX5_isSheet 14 = .ok (.lconst 0, 1) := by decide +kernel
theorem dX5_isSheet_15 : decode cX5_isSheet 15 = .ok (.ldc2_w 89, 3) := by decide +kernel
theorem dX5_isSheet_18 : decode cX5_isSheet 18 = .ok (.invokestatic 68, 3) := by decide +kernel
theorem dX5_isSheet_21 : decode cX5_isSheet 21 = .ok (.ifCond .eq 7, 3) := by decide +kernel
theorem dX5_isSheet_24 : decode cX5_isSheet 24 = .ok (.iconst 1, 1) := by decide +kernel
theorem dX5_isSheet_25 : decode cX5_isSheet 25 = .ok (.goto 4, 3) := by decide +kernel
theorem dX5_isSheet_28 : decode cX5_isSheet 28 = .ok (.iconst 0, 1) := by decide +kernel
theorem dX5_isSheet_29 : decode cX5_isSheet 29 = .ok (.ireturn, 1) := by decide +kernel
theorem dX5_asLane_0 : decode cX5_asLane 0 = .ok (.iload_n 0, 1) := by decide +kernel
theorem dX5_asLane_1 : decode cX5_asLane 1 = .ok (.ifCond .ne 13, 3) := by decide +kernel
theorem dX5_asLane_4 : decode cX5_asLane 4 = .ok (.iload_n 1, 1) := by decide +kernel
theorem dX5_asLane_5 : decode cX5_asLane 5 = .ok (.bipush 24, 2) := by decide +kernel
theorem dX5_asLane_7 : decode cX5_asLane 7 = .ok (.ishl, 1) := by decide +kernel
theorem dX5_asLane_8 : decode cX5_asLane 8 = .ok (.bipush 24, 2) := by decide +kernel
theorem dX5_asLane_10 : decode cX5_asLane 10 = .ok (.ishr, 1) := by decide +kernel
theorem dX5_asLane_11 : decode cX5_asLane 11 = .ok (.goto 19, 3) := by decide +kernel
theorem dX5_asLane_14 : decode cX5_asLane 14 = .ok (.iload_n 0, 1) := by decide +kernel
theorem dX5_asLane_15 : decode cX5_asLane 15 = .ok (.iconst 1, 1) := by decide +kernel
theorem dX5_asLane_16 : decode cX5_asLane 16 = .ok (.if_icmp .ne 13, 3) := by decide +kernel
theorem dX5_asLane_19 : decode cX5_asLane 19 = .ok (.iload_n 1, 1) := by decide +kernel
theorem dX5_asLane_20 : decode cX5_asLane 20 = .ok (.bipush 16, 2) := by decide +kernel
theorem dX5_asLane_22 : decode cX5_asLane 22 = .ok (.ishl, 1) := by decide +kernel
theorem dX5_asLane_23 : decode cX5_asLane 23 = .ok (.bipush 16, 2) := by decide +kernel
theorem dX5_asLane_25 : decode cX5_asLane 25 = .ok (.ishr, 1) := by decide +kernel
theorem dX5_asLane_26 : decode cX5_asLane 26 = .ok (.goto 4, 3) := by decide +kernel
theorem dX5_asLane_29 : decode cX5_asLane 29 = .ok (.iload_n 1, 1) := by decide +kernel
theorem dX5_asLane_30 : decode cX5_asLane 30 = .ok (.ireturn, 1) := by decide +kernel
theorem dX5_sheet_0 : decode cX5_sheet 0 = .ok (.iload_n 1, 1) := by decide +kernel
theorem dX5_sheet_1 : decode cX5_sheet 1 = .ok (.iload_n 2, 1) := by decide +kernel
theorem dX5_sheet_2 : decode cX5_sheet 2 = .ok (.invokestatic 254, 3) := by decide +kernel
theorem dX5_sheet_5 : decode cX5_sheet 5 = .ok (.ifCond .eq 9, 3) := by decide +kernel
theorem dX5_sheet_8 : decode cX5_sheet 8 = .ok (.iload_n 3, 1) := by decide +kernel
theorem dX5_sheet_9 : decode cX5_sheet 9 = .ok (.bipush 24, 2) := by decide +kernel
theorem dX5_sheet_11 : decode cX5_sheet 11 = .ok (.if_icmp .le 5, 3) := by decide +kernel
theorem dX5_sheet_14 : decode cX5_sheet 14 = .ok (.iconst (-1), 1) := by decide +kernel
theorem dX5_sheet_15 : decode cX5_sheet 15 = .ok (.ireturn, 1) := by decide +kernel
theorem dX5_sheet_16 : decode cX5_sheet 16 = .ok (.iload_n 3, 1) := by decide +kernel
theorem dX5_sheet_17 : decode cX5_sheet 17 = .ok (.ifCond .ge 6, 3) := by decide +kernel
theorem dX5_sheet_20 : decode cX5_sheet 20 = .ok (.bipush (-14), 2) := by decide +kernel
theorem dX5_sheet_22 : decode cX5_sheet 22 = .ok (.ireturn, 1) := by decide +kernel
theorem dX5_sheet_23 : decode cX5_sheet 23 = .ok (.aload_n 0, 1) := by decide +kernel
theorem dX5_sheet_24 : decode cX5_sheet 24 = .ok (.getfield 52, 3) := by decide +kernel
theorem dX5_sheet_27 : decode cX5_sheet 27 = .ok (.iload_n 1, 1) := by decide +kernel
theorem dX5_sheet_28 : decode cX5_sheet 28 = .ok (.iload_n 2, 1) := by decide +kernel
theorem dX5_sheet_29 : decode cX5_sheet 29 = .ok (.iastore, 1) := by decide +kernel
theorem dX5_sheet_30 : decode cX5_sheet 30 = .ok (.aload_n 0, 1) := by decide +kernel
theorem dX5_sheet_31 : decode cX5_sheet 31 = .ok (.getfield 55, 3) := by decide +kernel
theorem dX5_sheet_34 : decode cX5_sheet 34 = .ok (.iload_n 1, 1) := by decide +kernel
theorem dX5_sheet_35 : decode cX5_sheet 35 = .ok (.iload_n 3, 1) := by decide +kernel
theorem dX5_sheet_36 : decode cX5_sheet 36 = .ok (.iastore, 1) := by decide +kernel
theorem dX5_sheet_37 : decode cX5_sheet 37 = .ok (.iconst 0, 1) := by decide +kernel
theorem dX5_sheet_38 : decode cX5_sheet 38 = .ok (.istore 4, 2) := by decide +kernel
theorem dX5_sheet_40 : decode cX5_sheet 40 = .ok (.iload 4, 2) := by decide +kernel
theorem dX5_sheet_42 : decode cX5_sheet 42 = .ok (.bipush 24, 2) := by decide +kernel
theorem dX5_sheet_44 : decode cX5_sheet 44 = .ok (.if_icmp .ge 22, 3) := by decide +kernel
theorem dX5_sheet_47 : decode cX5_sheet 47 = .ok (.aload_n 0, 1) := by decide +kernel
theorem dX5_sheet_48 : decode cX5_sheet 48 = .ok (.getfield 58, 3) := by decide +kernel
theorem dX5_sheet_51 : decode cX5_sheet 51 = .ok (.bipush 24, 2) := by decide +kernel
theorem dX5_sheet_53 : decode cX5_sheet 53 = .ok (.iload_n 1, 1) := by decide +kernel
theorem dX5_sheet_54 : decode cX5_sheet 54 = .ok (.imul, 1) := by decide +kernel
theorem dX5_sheet_55 : decode cX5_sheet 55 = .ok (.iload 4, 2) := by decide +kernel
theorem dX5_sheet_57 : decode cX5_sheet 57 = .ok (.iadd, 1) := by decide +kernel
theorem dX5_sheet_58 : decode cX5_sheet 58 = .ok (.iconst 0, 1) := by decide +kernel
theorem dX5_sheet_59 : decode cX5_sheet 59 = .ok (.iastore, 1) := by decide +kernel
theorem dX5_sheet_60 : decode cX5_sheet 60 = .ok (.iinc 4 1, 3) := by decide +kernel
theorem dX5_sheet_63 : decode cX5_sheet 63 = .ok (.goto (-23), 3) := by decide +kernel
theorem dX5_sheet_66 : decode cX5_sheet 66 = .ok (.iload_n 3, 1) := by decide +kernel
theorem dX5_sheet_67 : decode cX5_sheet 67 = .ok (.ireturn, 1) := by decide +kernel
theorem dX5_drop_0 : decode cX5_drop 0 = .ok (.iload_n 1, 1) := by decide +kernel
theorem dX5_drop_1 : decode cX5_drop 1 = .ok (.i2l, 1) := by decide +kernel
theorem dX5_drop_2 : decode cX5_drop 2 = .ok (.lconst 0, 1) := by decide +kernel
theorem dX5_drop_3 : decode cX5_drop 3 = .ok (.ldc2_w 91, 3) := by decide +kernel
theorem dX5_drop_6 : decode cX5_drop 6 = .ok (.invokestatic 68, 3) := by decide +kernel
theorem dX5_drop_9 : decode cX5_drop 9 = .ok (.ifCond .ne 5, 3) := by decide +kernel
theorem dX5_drop_12 : decode cX5_drop 12 = .ok (.iconst (-1), 1) := by decide +kernel
theorem dX5_drop_13 : decode cX5_drop 13 = .ok (.ireturn, 1) := by decide +kernel
theorem dX5_drop_14 : decode cX5_drop 14 = .ok (.aload_n 0, 1) := by decide +kernel
theorem dX5_drop_15 : decode cX5_drop 15 = .ok (.getfield 52, 3) := by decide +kernel
theorem dX5_drop_18 : decode cX5_drop 18 = .ok (.iload_n 1, 1) := by decide +kernel
theorem dX5_drop_19 : decode cX5_drop 19 = .ok (.iaload, 1) := by decide +kernel
theorem dX5_drop_20 : decode cX5_drop 20 = .ok (.ifCond .ge 6, 3) := by decide +kernel
theorem dX5_drop_23 : decode cX5_drop 23 = .ok (.bipush (-11), 2) := by decide +kernel
theorem dX5_drop_25 : decode cX5_drop 25 = .ok (.ireturn, 1) := by decide +kernel
theorem dX5_drop_26 : decode cX5_drop 26 = .ok (.aload_n 0, 1) := by decide +kernel
theorem dX5_drop_27 : decode cX5_drop 27 = .ok (.getfield 52, 3) := by decide +kernel
theorem dX5_drop_30 : decode cX5_drop 30 = .ok (.iload_n 1, 1) := by decide +kernel
theorem dX5_drop_31 : decode cX5_drop 31 = .ok (.iconst (-1), 1) := by decide +kernel
theorem dX5_drop_32 : decode cX5_drop 32 = .ok (.iastore, 1) := by decide +kernel
theorem dX5_drop_33 : decode cX5_drop 33 = .ok (.aload_n 0, 1) := by decide +kernel
theorem dX5_drop_34 : decode cX5_drop 34 = .ok (.getfield 55, 3) := by decide +kernel
theorem dX5_drop_37 : decode cX5_drop 37 = .ok (.iload_n 1, 1) := by decide +kernel
theorem dX5_drop_38 : decode cX5_drop 38 = .ok (.iaload, 1) := by decide +kernel
theorem dX5_drop_39 : decode cX5_drop 39 = .ok (.ireturn, 1) := by decide +kernel
theorem dX5_lacksRow_0 : decode cX5_lacksRow 0 = .ok (.aload_n 0, 1) := by decide +kernel
theorem dX5_lacksRow_1 : decode cX5_lacksRow 1 = .ok (.getfield 52, 3) := by decide +kernel
theorem dX5_lacksRow_4 : decode cX5_lacksRow 4 = .ok (.iload_n 1, 1) := by decide +kernel
theorem dX5_lacksRow_5 : decode cX5_lacksRow 5 = .ok (.iaload, 1) := by decide +kernel
theorem dX5_lacksRow_6 : decode cX5_lacksRow 6 = .ok (.iload_n 2, 1) := by decide +kernel
theorem dX5_lacksRow_7 : decode cX5_lacksRow 7 = .ok (.if_icmp .eq 20, 3) := by decide +kernel
theorem dX5_lacksRow_10 : decode cX5_lacksRow 10 = .ok (.aload_n 0, 1) := by decide +kernel
theorem dX5_lacksRow_11 : decode cX5_lacksRow 11 = .ok (.getfield 52, 3) := by decide +kernel
theorem dX5_lacksRow_14 : decode cX5_lacksRow 14 = .ok (.iload_n 1, 1) := by decide +kernel
theorem dX5_lacksRow_15 : decode cX5_lacksRow 15 = .ok (.iaload, 1) := by decide +kernel
theorem dX5_lacksRow_16 : decode cX5_lacksRow 16 = .ok (.ifCond .ge 8, 3) := by decide +kernel
theorem dX5_lacksRow_19 : decode cX5_lacksRow 19 = .ok (.bipush (-11), 2) := by decide +kernel
theorem dX5_lacksRow_21 : decode cX5_lacksRow 21 = .ok (.goto 5, 3) := by decide +kernel
theorem dX5_lacksRow_24 : decode cX5_lacksRow 24 = .ok (.bipush (-12), 2) := by decide +kernel
theorem dX5_lacksRow_26 : decode cX5_lacksRow 26 = .ok (.ireturn, 1) := by decide +kernel
theorem dX5_lacksRow_27 : decode cX5_lacksRow 27 = .ok (.iload_n 3, 1) := by decide +kernel
theorem dX5_lacksRow_28 : decode cX5_lacksRow 28 = .ok (.i2l, 1) := by decide +kernel
theorem dX5_lacksRow_29 : decode cX5_lacksRow 29 = .ok (.lconst 0, 1) := by decide +kernel
theorem dX5_lacksRow_30 : decode cX5_lacksRow 30 = .ok (.aload_n 0, 1) := by decide +kernel
theorem dX5_lacksRow_31 : decode cX5_lacksRow 31 = .ok (.getfield 55, 3) := by decide +kernel
theorem dX5_lacksRow_34 : decode cX5_lacksRow 34 = .ok (.iload_n 1, 1) := by decide +kernel
theorem dX5_lacksRow_35 : decode cX5_lacksRow 35 = .ok (.iaload, 1) := by decide +kernel
theorem dX5_lacksRow_36 : decode cX5_lacksRow 36 = .ok (.iload 4, 2) := by decide +kernel
theorem dX5_lacksRow_38 : decode cX5_lacksRow 38 = .ok (.isub, 1) := by decide +kernel
theorem dX5_lacksRow_39 : decode cX5_lacksRow 39 = .ok (.i2l, 1) := by decide +kernel
theorem dX5_lacksRow_40 : decode cX5_lacksRow 40 = .ok (.invokestatic 68, 3) := by decide +kernel
theorem dX5_lacksRow_43 : decode cX5_lacksRow 43 = .ok (.ifCond .eq 7, 3) := by decide +kernel
theorem dX5_lacksRow_46 : decode cX5_lacksRow 46 = .ok (.iconst 0, 1) := by decide +kernel
theorem dX5_lacksRow_47 : decode cX5_lacksRow 47 = .ok (.goto 5, 3) := by decide +kernel
theorem dX5_lacksRow_50 : decode cX5_lacksRow 50 = .ok (.bipush (-13), 2) := by decide +kernel
theorem dX5_lacksRow_52 : decode cX5_lacksRow 52 = .ok (.ireturn, 1) := by decide +kernel
theorem dX5_item_0 : decode cX5_item 0 = .ok (.iload_n 1, 1) := by decide +kernel
theorem dX5_item_1 : decode cX5_item 1 = .ok (.iload_n 2, 1) := by decide +kernel
theorem dX5_item_2 : decode cX5_item 2 = .ok (.invokestatic 254, 3) := by decide +kernel
theorem dX5_item_5 : decode cX5_item 5 = .ok (.ifCond .ne 5, 3) := by decide +kernel
theorem dX5_item_8 : decode cX5_item 8 = .ok (.iconst (-1), 1) := by decide +kernel
theorem dX5_item_9 : decode cX5_item 9 = .ok (.ireturn, 1) := by decide +kernel
theorem dX5_item_10 : decode cX5_item 10 = .ok (.aload_n 0, 1) := by decide +kernel
theorem dX5_item_11 : decode cX5_item 11 = .ok (.iload_n 1, 1) := by decide +kernel
theorem dX5_item_12 : decode cX5_item 12 = .ok (.iload_n 2, 1) := by decide +kernel
theorem dX5_item_13 : decode cX5_item 13 = .ok (.iload_n 3, 1) := by decide +kernel
theorem dX5_item_14 : decode cX5_item 14 = .ok (.iconst 1, 1) := by decide +kernel
theorem dX5_item_15 : decode cX5_item 15 = .ok (.invokevirtual 257, 3) := by decide +kernel
theorem dX5_item_18 : decode cX5_item 18 = .ok (.istore 5, 2) := by decide +kernel
theorem dX5_item_20 : decode cX5_item 20 = .ok (.iload 5, 2) := by decide +kernel
theorem dX5_item_22 : decode cX5_item 22 = .ok (.ifCond .ge 6, 3) := by decide +kernel
theorem dX5_item_25 : decode cX5_item 25 = .ok (.iload 5, 2) := by decide +kernel
theorem dX5_item_27 : decode cX5_item 27 = .ok (.ireturn, 1) := by decide +kernel
theorem dX5_item_28 : decode cX5_item 28 = .ok (.aload_n 0, 1) := by decide +kernel
theorem dX5_item_29 : decode cX5_item 29 = .ok (.getfield 58, 3) := by decide +kernel
theorem dX5_item_32 : decode cX5_item 32 = .ok (.bipush 24, 2) := by decide +kernel
theorem dX5_item_34 : decode cX5_item 34 = .ok (.iload_n 1, 1) := by decide +kernel
theorem dX5_item_35 : decode cX5_item 35 = .ok (.imul, 1) := by decide +kernel
theorem dX5_item_36 : decode cX5_item 36 = .ok (.iload_n 3, 1) := by decide +kernel
theorem dX5_item_37 : decode cX5_item 37 = .ok (.iadd, 1) := by decide +kernel
theorem dX5_item_38 : decode cX5_item 38 = .ok (.iload_n 2, 1) := by decide +kernel
theorem dX5_item_39 : decode cX5_item 39 = .ok (.iload 4, 2) := by decide +kernel
theorem dX5_item_41 : decode cX5_item 41 = .ok (.invokestatic 261, 3) := by decide +kernel
theorem dX5_item_44 : decode cX5_item 44 = .ok (.iastore, 1) := by decide +kernel
theorem dX5_item_45 : decode cX5_item 45 = .ok (.iconst 1, 1) := by decide +kernel
theorem dX5_item_46 : decode cX5_item 46 = .ok (.ireturn, 1) := by decide +kernel
theorem dX5_areFound_0 : decode cX5_areFound 0 = .ok (.aload_n 0, 1) := by decide +kernel
theorem dX5_areFound_1 : decode cX5_areFound 1 = .ok (.invokevirtual 189, 3) := by decide +kernel
theorem dX5_areFound_4 : decode cX5_areFound 4 = .ok (.iconst 1, 1) := by decide +kernel
theorem dX5_areFound_5 : decode cX5_areFound 5 = .ok (.istore_n 2, 1) := by decide +kernel
theorem dX5_areFound_6 : decode cX5_areFound 6 = .ok (.iconst 0, 1) := by decide +kernel
theorem dX5_areFound_7 : decode cX5_areFound 7 = .ok (.istore_n 3, 1) := by decide +kernel
theorem dX5_areFound_8 : decode cX5_areFound 8 = .ok (.iload_n 3, 1) := by decide +kernel
theorem dX5_areFound_9 : decode cX5_areFound 9 = .ok (.aload_n 0, 1) := by decide +kernel
theorem dX5_areFound_10 : decode cX5_areFound 10 = .ok (.getfield 64, 3) := by decide +kernel
theorem dX5_areFound_13 : decode cX5_areFound 13 = .ok (.if_icmp .ge 45, 3) := by decide +kernel
theorem dX5_areFound_16 : decode cX5_areFound 16 = .ok (.iload_n 2, 1) := by decide +kernel
theorem dX5_areFound_17 : decode cX5_areFound 17 = .ok (.ifCond .eq 33, 3) := by decide +kernel
theorem dX5_areFound_20 : decode cX5_areFound 20 = .ok (.aload_n 0, 1) := by decide +kernel
theorem dX5_areFound_21 : decode cX5_areFound 21 = .ok (.getfield 13, 3) := by decide +kernel
theorem dX5_areFound_24 : decode cX5_areFound 24 = .ok (.iload_n 3, 1) := by decide +kernel
theorem dX5_areFound_25 : decode cX5_areFound 25 = .ok (.iaload, 1) := by decide +kernel
theorem dX5_areFound_26 : decode cX5_areFound 26 = .ok (.ifCond .eq 20, 3) := by decide +kernel
theorem dX5_areFound_29 : decode cX5_areFound 29 = .ok (.aload_n 0, 1) := by decide +kernel
theorem dX5_areFound_30 : decode cX5_areFound 30 = .ok (.getfield 40, 3) := by decide +kernel
theorem dX5_areFound_33 : decode cX5_areFound 33 = .ok (.iload_n 3, 1) := by decide +kernel
theorem dX5_areFound_34 : decode cX5_areFound 34 = .ok (.iaload, 1) := by decide +kernel
theorem dX5_areFound_35 : decode cX5_areFound 35 = .ok (.aload_n 0, 1) := by decide +kernel
theorem dX5_areFound_36 : decode cX5_areFound 36 = .ok (.getfield 58, 3) := by decide +kernel
theorem dX5_areFound_39 : decode cX5_areFound 39 = .ok (.iload_n 1, 1) := by decide +kernel
theorem dX5_areFound_40 : decode cX5_areFound 40 = .ok (.iload_n 3, 1) := by decide +kernel
theorem dX5_areFound_41 : decode cX5_areFound 41 = .ok (.iadd, 1) := by decide +kernel
theorem dX5_areFound_42 : decode cX5_areFound 42 = .ok (.iaload, 1) := by decide +kernel
theorem dX5_areFound_43 : decode cX5_areFound 43 = .ok (.if_icmp .ne 7, 3) := by decide +kernel
theorem dX5_areFound_46 : decode cX5_areFound 46 = .ok (.iconst 1, 1) := by decide +kernel
theorem dX5_areFound_47 : decode cX5_areFound 47 = .ok (.goto 4, 3) := by decide +kernel
theorem dX5_areFound_50 : decode cX5_areFound 50 = .ok (.iconst 0, 1) := by decide +kernel
theorem dX5_areFound_51 : decode cX5_areFound 51 = .ok (.istore_n 2, 1) := by decide +kernel
theorem dX5_areFound_52 : decode cX5_areFound 52 = .ok (.iinc 3 1, 3) := by decide +kernel
theorem dX5_areFound_55 : decode cX5_areFound 55 = .ok (.goto (-47), 3) := by decide +kernel
theorem dX5_areFound_58 : decode cX5_areFound 58 = .ok (.iload_n 2, 1) := by decide +kernel
theorem dX5_areFound_59 : decode cX5_areFound 59 = .ok (.ireturn, 1) := by decide +kernel
theorem dX5_meshes_0 : decode cX5_meshes 0 = .ok (.aload_n 0, 1) := by decide +kernel
theorem dX5_meshes_1 : decode cX5_meshes 1 = .ok (.iload_n 1, 1) := by decide +kernel
theorem dX5_meshes_2 : decode cX5_meshes 2 = .ok (.invokevirtual 99, 3) := by decide +kernel
theorem dX5_meshes_5 : decode cX5_meshes 5 = .ok (.ifCond .eq 11, 3) := by decide +kernel
theorem dX5_meshes_8 : decode cX5_meshes 8 = .ok (.iload_n 2, 1) := by decide +kernel
theorem dX5_meshes_9 : decode cX5_meshes 9 = .ok (.iload_n 3, 1) := by decide +kernel
theorem dX5_meshes_10 : decode cX5_meshes 10 = .ok (.invokestatic 254, 3) := by decide +kernel
theorem dX5_meshes_13 : decode cX5_meshes 13 = .ok (.ifCond .ne 7, 3) := by decide +kernel
theorem dX5_meshes_16 : decode cX5_meshes 16 = .ok (.ldc2_w 238, 3) := by decide +kernel
theorem dX5_meshes_19 : decode cX5_meshes 19 = .ok (.lreturn, 1) := by decide +kernel
theorem dX5_meshes_20 : decode cX5_meshes 20 = .ok (.aload_n 0, 1) := by decide +kernel
theorem dX5_meshes_21 : decode cX5_meshes 21 = .ok (.invokevirtual 183, 3) := by decide +kernel
theorem dX5_meshes_24 : decode cX5_meshes 24 = .ok (.aload_n 0, 1) := by decide +kernel
theorem dX5_meshes_25 : decode cX5_meshes 25 = .ok (.invokevirtual 186, 3) := by decide +kernel
theorem dX5_meshes_28 : decode cX5_meshes 28 = .ok (.iconst 0, 1) := by decide +kernel
theorem dX5_meshes_29 : decode cX5_meshes 29 = .ok (.istore 5, 2) := by decide +kernel
theorem dX5_meshes_31 : decode cX5_meshes 31 = .ok (.iconst 0, 1) := by decide +kernel
theorem dX5_meshes_32 : decode cX5_meshes 32 = .ok (.istore 6, 2) := by decide +kernel
theorem dX5_meshes_34 : decode cX5_meshes 34 = .ok (.iload 6, 2) := by decide +kernel
theorem dX5_meshes_36 : decode cX5_meshes 36 = .ok (.aload_n 0, 1) := by decide +kernel
theorem dX5_meshes_37 : decode cX5_meshes 37 = .ok (.getfield 164, 3) := by decide +kernel
theorem dX5_meshes_40 : decode cX5_meshes 40 = .ok (.if_icmp .ge 32, 3) := by decide +kernel
theorem dX5_meshes_43 : decode cX5_meshes 43 = .ok (.iload 5, 2) := by decide +kernel
theorem dX5_meshes_45 : decode cX5_meshes 45 = .ok (.ifCond .ne 14, 3) := by decide +kernel
theorem dX5_meshes_48 : decode cX5_meshes 48 = .ok (.aload_n 0, 1) := by decide +kernel
theorem dX5_meshes_49 : decode cX5_meshes 49 = .ok (.getfield 31, 3) := by decide +kernel
theorem dX5_meshes_52 : decode cX5_meshes 52 = .ok (.iload 6, 2) := by decide +kernel
theorem dX5_meshes_54 : decode cX5_meshes 54 = .ok (.iaload, 1) := by decide +kernel
theorem dX5_meshes_55 : decode cX5_meshes 55 = .ok (.iload_n 1, 1) := by decide +kernel
theorem dX5_meshes_56 : decode cX5_meshes 56 = .ok (.if_icmp .ne 7, 3) := by decide +kernel
theorem dX5_meshes_59 : decode cX5_meshes 59 = .ok (.iconst 1, 1) := by decide +kernel
theorem dX5_meshes_60 : decode cX5_meshes 60 = .ok (.goto 4, 3) := by decide +kernel
theorem dX5_meshes_63 : decode cX5_meshes 63 = .ok (.iconst 0, 1) := by decide +kernel
theorem dX5_meshes_64 : decode cX5_meshes 64 = .ok (.istore 5, 2) := by decide +kernel
theorem dX5_meshes_66 : decode cX5_meshes 66 = .ok (.iinc 6 1, 3) := by decide +kernel
theorem dX5_meshes_69 : decode cX5_meshes 69 = .ok (.goto (-35), 3) := by decide +kernel
theorem dX5_meshes_72 : decode cX5_meshes 72 = .ok (.iload 5, 2) := by decide +kernel
theorem dX5_meshes_74 : decode cX5_meshes 74 = .ok (.ifCond .eq 13, 3) := by decide +kernel
theorem dX5_meshes_77 : decode cX5_meshes 77 = .ok (.aload_n 0, 1) := by decide +kernel
theorem dX5_meshes_78 : decode cX5_meshes 78 = .ok (.getfield 34, 3) := by decide +kernel
theorem dX5_meshes_81 : decode cX5_meshes 81 = .ok (.iload_n 1, 1) := by decide +kernel
theorem dX5_meshes_82 : decode cX5_meshes 82 = .ok (.iaload, 1) := by decide +kernel
theorem dX5_meshes_83 : decode cX5_meshes 83 = .ok (.iconst 3, 1) := by decide +kernel
theorem dX5_meshes_84 : decode cX5_meshes 84 = .ok (.if_icmp .ne 7, 3) := by decide +kernel
theorem dX5_meshes_87 : decode cX5_meshes 87 = .ok (.ldc2_w 232, 3) := by decide +kernel
theorem dX5_meshes_90 : decode cX5_meshes 90 = .ok (.lreturn, 1) := by decide +kernel
theorem dX5_meshes_91 : decode cX5_meshes 91 = .ok (.aload_n 0, 1) := by decide +kernel
theorem dX5_meshes_92 : decode cX5_meshes 92 = .ok (.iload_n 2, 1) := by decide +kernel
theorem dX5_meshes_93 : decode cX5_meshes 93 = .ok (.iload_n 3, 1) := by decide +kernel
theorem dX5_meshes_94 : decode cX5_meshes 94 = .ok (.iload 4, 2) := by decide +kernel
theorem dX5_meshes_96 : decode cX5_meshes 96 = .ok (.aload_n 0, 1) := by decide +kernel
theorem dX5_meshes_97 : decode cX5_meshes 97 = .ok (.getfield 64, 3) := by decide +kernel
theorem dX5_meshes_100 : decode cX5_meshes 100 = .ok (.invokevirtual 257, 3) := by decide +kernel
theorem dX5_meshes_103 : decode cX5_meshes 103 = .ok (.istore 6, 2) := by decide +kernel
theorem dX5_meshes_105 : decode cX5_meshes 105 = .ok (.iload 6, 2) := by decide +kernel
theorem dX5_meshes_107 : decode cX5_meshes 107 = .ok (.ifCond .ge 7, 3) := by decide +kernel
theorem dX5_meshes_110 : decode cX5_meshes 110 = .ok (.iload 6, 2) := by decide +kernel
theorem dX5_meshes_112 : decode cX5_meshes 112 = .ok (.i2l, 1) := by decide +kernel
theorem dX5_meshes_113 : decode cX5_meshes 113 = .ok (.lreturn, 1) := by decide +kernel
theorem dX5_meshes_114 : decode cX5_meshes 114 = .ok (.lconst 0, 1) := by decide +kernel
theorem dX5_meshes_115 : decode cX5_meshes 115 = .ok (.lstore 7, 2) := by decide +kernel
theorem dX5_meshes_117 : decode cX5_meshes 117 = .ok (.iconst 1, 1) := by decide +kernel
theorem dX5_meshes_118 : decode cX5_meshes 118 = .ok (.istore 9, 2) := by decide +kernel
theorem dX5_meshes_120 : decode cX5_meshes 120 = .ok (.iload 9, 2) := by decide +kernel
theorem dX5_meshes_122 : decode cX5_meshes 122 = .ok (.bipush 60, 2) := by decide +kernel
theorem dX5_meshes_124 : decode cX5_meshes 124 = .ok (.if_icmp .gt 46, 3) := by decide +kernel
theorem dX5_meshes_127 : decode cX5_meshes 127 = .ok (.aload_n 0, 1) := by decide +kernel
theorem dX5_meshes_128 : decode cX5_meshes 128 = .ok (.getfield 37, 3) := by decide +kernel
theorem dX5_meshes_131 : decode cX5_meshes 131 = .ok (.iload_n 1, 1) := by decide +kernel
theorem dX5_meshes_132 : decode cX5_meshes 132 = .ok (.iload 9, 2) := by decide +kernel
theorem dX5_meshes_134 : decode cX5_meshes 134 = .ok (.iastore, 1) := by decide +kernel
theorem dX5_meshes_135 : decode cX5_meshes 135 = .ok (.lload 7, 2) := by decide +kernel
theorem dX5_meshes_137 : decode cX5_meshes 137 = .ok (.aload_n 0, 1) := by decide +kernel
theorem dX5_meshes_138 : decode cX5_meshes 138 = .ok (.bipush 24, 2) := by decide +kernel
theorem dX5_meshes_140 : decode cX5_meshes 140 = .ok (.iload_n 2, 1) := by decide +kernel
theorem dX5_meshes_141 : decode cX5_meshes 141 = .ok (.imul, 1) := by decide +kernel
theorem dX5_meshes_142 : decode cX5_meshes 142 = .ok (.iload 4, 2) := by decide +kernel
theorem dX5_meshes_144 : decode cX5_meshes 144 = .ok (.iadd, 1) := by decide +kernel
theorem dX5_meshes_145 : decode cX5_meshes 145 = .ok (.invokevirtual 264, 3) := by decide +kernel
theorem dX5_meshes_148 : decode cX5_meshes 148 = .ok (.ifCond .eq 12, 3) := by decide +kernel
theorem dX5_meshes_151 : decode cX5_meshes 151 = .ok (.lconst 1, 1) := by decide +kernel
theorem dX5_meshes_152 : decode cX5_meshes 152 = .ok (.iload 9, 2) := by decide +kernel
theorem dX5_meshes_154 : decode cX5_meshes 154 = .ok (.iconst 1, 1) := by decide +kernel
theorem dX5_meshes_155 : decode cX5_meshes 155 = .ok (.isub, 1) := by decide +kernel
theorem dX5_meshes_156 : decode cX5_meshes 156 = .ok (.lshl, 1) := by decide +kernel
theorem dX5_meshes_157 : decode cX5_meshes 157 = .ok (.goto 4, 3) := by decide +kernel
theorem dX5_meshes_160 : decode cX5_meshes 160 = .ok (.lconst 0, 1) := by decide +kernel
theorem dX5_meshes_161 : decode cX5_meshes 161 = .ok (.lor, 1) := by decide +kernel
theorem dX5_meshes_162 : decode cX5_meshes 162 = .ok (.lstore 7, 2) := by decide +kernel
theorem dX5_meshes_164 : decode cX5_meshes 164 = .ok (.iinc 9 1, 3) := by decide +kernel
theorem dX5_meshes_167 : decode cX5_meshes 167 = .ok (.goto (-47), 3) := by decide +kernel
theorem dX5_meshes_170 : decode cX5_meshes 170 = .ok (.lload 7, 2) := by decide +kernel
theorem dX5_meshes_172 : decode cX5_meshes 172 = .ok (.lreturn, 1) := by decide +kernel
theorem dX5_torn_0 : decode cX5_torn 0 = .ok (.iload_n 1, 1) := by decide +kernel
theorem dX5_torn_1 : decode cX5_torn 1 = .ok (.iload_n 2, 1) := by decide +kernel
theorem dX5_torn_2 : decode cX5_torn 2 = .ok (.invokestatic 254, 3) := by decide +kernel
theorem dX5_torn_5 : decode cX5_torn 5 = .ok (.ifCond .ne 5, 3) := by decide +kernel
theorem dX5_torn_8 : decode cX5_torn 8 = .ok (.iconst (-1), 1) := by decide +kernel
theorem dX5_torn_9 : decode cX5_torn 9 = .ok (.ireturn, 1) := by decide +kernel
theorem dX5_torn_10 : decode cX5_torn 10 = .ok (.aload_n 0, 1) := by decide +kernel
theorem dX5_torn_11 : decode cX5_torn 11 = .ok (.iload_n 1, 1) := by decide +kernel
theorem dX5_torn_12 : decode cX5_torn 12 = .ok (.iload_n 2, 1) := by decide +kernel
theorem dX5_torn_13 : decode cX5_torn 13 = .ok (.iload_n 3, 1) := by decide +kernel
theorem dX5_torn_14 : decode cX5_torn 14 = .ok (.aload_n 0, 1) := by decide +kernel
theorem dX5_torn_15 : decode cX5_torn 15 = .ok (.getfield 64, 3) := by decide +kernel
theorem dX5_torn_18 : decode cX5_torn 18 = .ok (.invokevirtual 257, 3) := by decide +kernel
theorem dX5_torn_21 : decode cX5_torn 21 = .ok (.istore 4, 2) := by decide +kernel
theorem dX5_torn_23 : decode cX5_torn 23 = .ok (.iload 4, 2) := by decide +kernel
theorem dX5_torn_25 : decode cX5_torn 25 = .ok (.ifCond .ge 6, 3) := by decide +kernel
theorem dX5_torn_28 : decode cX5_torn 28 = .ok (.iload 4, 2) := by decide +kernel
theorem dX5_torn_30 : decode cX5_torn 30 = .ok (.ireturn, 1) := by decide +kernel
theorem dX5_torn_31 : decode cX5_torn 31 = .ok (.aload_n 0, 1) := by decide +kernel
theorem dX5_torn_32 : decode cX5_torn 32 = .ok (.invokevirtual 183, 3) := by decide +kernel
theorem dX5_torn_35 : decode cX5_torn 35 = .ok (.aload_n 0, 1) := by decide +kernel
theorem dX5_torn_36 : decode cX5_torn 36 = .ok (.invokevirtual 186, 3) := by decide +kernel
theorem dX5_torn_39 : decode cX5_torn 39 = .ok (.bipush 24, 2) := by decide +kernel
theorem dX5_torn_41 : decode cX5_torn 41 = .ok (.iload_n 1, 1) := by decide +kernel
theorem dX5_torn_42 : decode cX5_torn 42 = .ok (.imul, 1) := by decide +kernel
theorem dX5_torn_43 : decode cX5_torn 43 = .ok (.iload_n 3, 1) := by decide +kernel
theorem dX5_torn_44 : decode cX5_torn 44 = .ok (.iadd, 1) := by decide +kernel
theorem dX5_torn_45 : decode cX5_torn 45 = .ok (.istore 5, 2) := by decide +kernel
theorem dX5_torn_47 : decode cX5_torn 47 = .ok (.aload_n 0, 1) := by decide +kernel
theorem dX5_torn_48 : decode cX5_torn 48 = .ok (.iload 5, 2) := by decide +kernel
theorem dX5_torn_50 : decode cX5_torn 50 = .ok (.invokevirtual 264, 3) := by decide +kernel
theorem dX5_torn_53 : decode cX5_torn 53 = .ok (.ifCond .eq 9, 3) := by decide +kernel
theorem dX5_torn_56 : decode cX5_torn 56 = .ok (.sipush 128, 3) := by decide +kernel
theorem dX5_torn_59 : decode cX5_torn 59 = .ok (.goto 4, 3) := by decide +kernel
theorem dX5_torn_62 : decode cX5_torn 62 = .ok (.iconst 0, 1) := by decide +kernel
theorem dX5_torn_63 : decode cX5_torn 63 = .ok (.istore 6, 2) := by decide +kernel
theorem dX5_torn_65 : decode cX5_torn 65 = .ok (.iconst 0, 1) := by decide +kernel
theorem dX5_torn_66 : decode cX5_torn 66 = .ok (.istore 7, 2) := by decide +kernel
theorem dX5_torn_68 : decode cX5_torn 68 = .ok (.iload 7, 2) := by decide +kernel
theorem dX5_torn_70 : decode cX5_torn 70 = .ok (.aload_n 0, 1) := by decide +kernel
theorem dX5_torn_71 : decode cX5_torn 71 = .ok (.getfield 164, 3) := by decide +kernel
theorem dX5_torn_74 : decode cX5_torn 74 = .ok (.if_icmp .ge 64, 3) := by decide +kernel
theorem dX5_torn_77 : decode cX5_torn 77 = .ok (.aload_n 0, 1) := by decide +kernel
theorem dX5_torn_78 : decode cX5_torn 78 = .ok (.getfield 31, 3) := by decide +kernel
theorem dX5_torn_81 : decode cX5_torn 81 = .ok (.iload 7, 2) := by decide +kernel
theorem dX5_torn_83 : decode cX5_torn 83 = .ok (.iaload, 1) := by decide +kernel
theorem dX5_torn_84 : decode cX5_torn 84 = .ok (.istore 8, 2) := by decide +kernel
theorem dX5_torn_86 : decode cX5_torn 86 = .ok (.aload_n 0, 1) := by decide +kernel
theorem dX5_torn_87 : decode cX5_torn 87 = .ok (.getfield 34, 3) := by decide +kernel
theorem dX5_torn_90 : decode cX5_torn 90 = .ok (.iload 8, 2) := by decide +kernel
theorem dX5_torn_92 : decode cX5_torn 92 = .ok (.iconst 3, 1) := by decide +kernel
theorem dX5_torn_93 : decode cX5_torn 93 = .ok (.iastore, 1) := by decide +kernel
theorem dX5_torn_94 : decode cX5_torn 94 = .ok (.iload 6, 2) := by decide +kernel
theorem dX5_torn_96 : decode cX5_torn 96 = .ok (.aload_n 0, 1) := by decide +kernel
theorem dX5_torn_97 : decode cX5_torn 97 = .ok (.iload 5, 2) := by decide +kernel
theorem dX5_torn_99 : decode cX5_torn 99 = .ok (.invokevirtual 264, 3) := by decide +kernel
theorem dX5_torn_102 : decode cX5_torn 102 = .ok (.ifCond .eq 10, 3) := by decide +kernel
theorem dX5_torn_105 : decode cX5_torn 105 = .ok (.iconst 1, 1) := by decide +kernel
theorem dX5_torn_106 : decode cX5_torn 106 = .ok (.iload 7, 2) := by decide +kernel
theorem dX5_torn_108 : decode cX5_torn 108 = .ok (.ishl, 1) := by decide +kernel
theorem dX5_torn_109 : decode cX5_torn 109 = .ok (.goto 4, 3) := by decide +kernel
theorem dX5_torn_112 : decode cX5_torn 112 = .ok (.iconst 0, 1) := by decide +kernel
theorem dX5_torn_113 : decode cX5_torn 113 = .ok (.ior, 1) := by decide +kernel
theorem dX5_torn_114 : decode cX5_torn 114 = .ok (.istore 6, 2) := by decide +kernel
theorem dX5_torn_116 : decode cX5_torn 116 = .ok (.aload_n 0, 1) := by decide +kernel
theorem dX5_torn_117 : decode cX5_torn 117 = .ok (.getfield 34, 3) := by decide +kernel
theorem dX5_torn_120 : decode cX5_torn 120 = .ok (.iload 8, 2) := by decide +kernel
theorem dX5_torn_122 : decode cX5_torn 122 = .ok (.aload_n 0, 1) := by decide +kernel
theorem dX5_torn_123 : decode cX5_torn 123 = .ok (.getfield 19, 3) := by decide +kernel
theorem dX5_torn_126 : decode cX5_torn 126 = .ok (.iconst 4, 1) := by decide +kernel
theorem dX5_torn_127 : decode cX5_torn 127 = .ok (.iload 8, 2) := by decide +kernel
theorem dX5_torn_129 : decode cX5_torn 129 = .ok (.imul, 1) := by decide +kernel
theorem dX5_torn_130 : decode cX5_torn 130 = .ok (.iaload, 1) := by decide +kernel
theorem dX5_torn_131 : decode cX5_torn 131 = .ok (.iastore, 1) := by decide +kernel
theorem dX5_torn_132 : decode cX5_torn 132 = .ok (.iinc 7 1, 3) := by decide +kernel
theorem dX5_torn_135 : decode cX5_torn 135 = .ok (.goto (-67), 3) := by decide +kernel
theorem dX5_torn_138 : decode cX5_torn 138 = .ok (.iload 6, 2) := by decide +kernel
theorem dX5_torn_140 : decode cX5_torn 140 = .ok (.ireturn, 1) := by decide +kernel
theorem dX5_film_0 : decode cX5_film 0 = .ok (.iload_n 1, 1) := by decide +kernel
theorem dX5_film_1 : decode cX5_film 1 = .ok (.iload_n 2, 1) := by decide +kernel
theorem dX5_film_2 : decode cX5_film 2 = .ok (.invokestatic 254, 3) := by decide +kernel
theorem dX5_film_5 : decode cX5_film 5 = .ok (.ifCond .ne 5, 3) := by decide +kernel
theorem dX5_film_8 : decode cX5_film 8 = .ok (.iconst (-1), 1) := by decide +kernel
theorem dX5_film_9 : decode cX5_film 9 = .ok (.ireturn, 1) := by decide +kernel
theorem dX5_film_10 : decode cX5_film 10 = .ok (.aload_n 0, 1) := by decide +kernel
theorem dX5_film_11 : decode cX5_film 11 = .ok (.iload_n 1, 1) := by decide +kernel
theorem dX5_film_12 : decode cX5_film 12 = .ok (.iload_n 2, 1) := by decide +kernel
theorem dX5_film_13 : decode cX5_film 13 = .ok (.iload_n 3, 1) := by decide +kernel
theorem dX5_film_14 : decode cX5_film 14 = .ok (.aload_n 0, 1) := by decide +kernel
theorem dX5_film_15 : decode cX5_film 15 = .ok (.getfield 64, 3) := by decide +kernel
theorem dX5_film_18 : decode cX5_film 18 = .ok (.invokevirtual 257, 3) := by decide +kernel
theorem dX5_film_21 : decode cX5_film 21 = .ok (.istore 4, 2) := by decide +kernel
theorem dX5_film_23 : decode cX5_film 23 = .ok (.iload 4, 2) := by decide +kernel
theorem dX5_film_25 : decode cX5_film 25 = .ok (.ifCond .ge 6, 3) := by decide +kernel
theorem dX5_film_28 : decode cX5_film 28 = .ok (.iload 4, 2) := by decide +kernel
theorem dX5_film_30 : decode cX5_film 30 = .ok (.ireturn, 1) := by decide +kernel
theorem dX5_film_31 : decode cX5_film 31 = .ok (.aload_n 0, 1) := by decide +kernel
theorem dX5_film_32 : decode cX5_film 32 = .ok (.invokevirtual 192, 3) := by decide +kernel
theorem dX5_film_35 : decode cX5_film 35 = .ok (.iconst 0, 1) := by decide +kernel
theorem dX5_film_36 : decode cX5_film 36 = .ok (.istore 5, 2) := by decide +kernel
theorem dX5_film_38 : decode cX5_film 38 = .ok (.iload 5, 2) := by decide +kernel
theorem dX5_film_40 : decode cX5_film 40 = .ok (.aload_n 0, 1) := by decide +kernel
theorem dX5_film_41 : decode cX5_film 41 = .ok (.getfield 64, 3) := by decide +kernel
theorem dX5_film_44 : decode cX5_film 44 = .ok (.if_icmp .ge 30, 3) := by decide +kernel
theorem dX5_film_47 : decode cX5_film 47 = .ok (.aload_n 0, 1) := by decide +kernel
theorem dX5_film_48 : decode cX5_film 48 = .ok (.getfield 58, 3) := by decide +kernel
theorem dX5_film_51 : decode cX5_film 51 = .ok (.bipush 24, 2) := by decide +kernel
theorem dX5_film_53 : decode cX5_film 53 = .ok (.iload_n 1, 1) := by decide +kernel
theorem dX5_film_54 : decode cX5_film 54 = .ok (.imul, 1) := by decide +kernel
theorem dX5_film_55 : decode cX5_film 55 = .ok (.iload_n 3, 1) := by decide +kernel
theorem dX5_film_56 : decode cX5_film 56 = .ok (.iadd, 1) := by decide +kernel
theorem dX5_film_57 : decode cX5_film 57 = .ok (.iload 5, 2) := by decide +kernel
theorem dX5_film_59 : decode cX5_film 59 = .ok (.iadd, 1) := by decide +kernel
theorem dX5_film_60 : decode cX5_film 60 = .ok (.aload_n 0, 1) := by decide +kernel
theorem dX5_film_61 : decode cX5_film 61 = .ok (.getfield 40, 3) := by decide +kernel
theorem dX5_film_64 : decode cX5_film 64 = .ok (.iload 5, 2) := by decide +kernel
theorem dX5_film_66 : decode cX5_film 66 = .ok (.iaload, 1) := by decide +kernel
theorem dX5_film_67 : decode cX5_film 67 = .ok (.iastore, 1) := by decide +kernel
theorem dX5_film_68 : decode cX5_film 68 = .ok (.iinc 5 1, 3) := by decide +kernel
theorem dX5_film_71 : decode cX5_film 71 = .ok (.goto (-33), 3) := by decide +kernel
theorem dX5_film_74 : decode cX5_film 74 = .ok (.aload_n 0, 1) := by decide +kernel
theorem dX5_film_75 : decode cX5_film 75 = .ok (.getfield 64, 3) := by decide +kernel
theorem dX5_film_78 : decode cX5_film 78 = .ok (.ireturn, 1) := by decide +kernel
theorem dX5_copy_0 : decode cX5_copy 0 = .ok (.iload_n 1, 1) := by decide +kernel
theorem dX5_copy_1 : decode cX5_copy 1 = .ok (.i2l, 1) := by decide +kernel
theorem dX5_copy_2 : decode cX5_copy 2 = .ok (.lconst 0, 1) := by decide +kernel
theorem dX5_copy_3 : decode cX5_copy 3 = .ok (.ldc2_w 91, 3) := by decide +kernel
theorem dX5_copy_6 : decode cX5_copy 6 = .ok (.invokestatic 68, 3) := by decide +kernel
theorem dX5_copy_9 : decode cX5_copy 9 = .ok (.ifCond .eq 15, 3) := by decide +kernel
theorem dX5_copy_12 : decode cX5_copy 12 = .ok (.iload_n 3, 1) := by decide +kernel
theorem dX5_copy_13 : decode cX5_copy 13 = .ok (.i2l, 1) := by decide +kernel
theorem dX5_copy_14 : decode cX5_copy 14 = .ok (.lconst 0, 1) := by decide +kernel
theorem dX5_copy_15 : decode cX5_copy 15 = .ok (.ldc2_w 91, 3) := by decide +kernel
theorem dX5_copy_18 : decode cX5_copy 18 = .ok (.invokestatic 68, 3) := by decide +kernel
theorem dX5_copy_21 : decode cX5_copy 21 = .ok (.ifCond .ne 5, 3) := by decide +kernel
theorem dX5_copy_24 : decode cX5_copy 24 = .ok (.iconst (-1), 1) := by decide +kernel
theorem dX5_copy_25 : decode cX5_copy 25 = .ok (.ireturn, 1) := by decide +kernel
theorem dX5_copy_26 : decode cX5_copy 26 = .ok (.aload_n 0, 1) := by decide +kernel
theorem dX5_copy_27 : decode cX5_copy 27 = .ok (.getfield 52, 3) := by decide +kernel
theorem dX5_copy_30 : decode cX5_copy 30 = .ok (.iload_n 1, 1) := by decide +kernel
theorem dX5_copy_31 : decode cX5_copy 31 = .ok (.iaload, 1) := by decide +kernel
theorem dX5_copy_32 : decode cX5_copy 32 = .ok (.ifCond .lt 12, 3) := by decide +kernel
theorem dX5_copy_35 : decode cX5_copy 35 = .ok (.aload_n 0, 1) := by decide +kernel
theorem dX5_copy_36 : decode cX5_copy 36 = .ok (.getfield 52, 3) := by decide +kernel
theorem dX5_copy_39 : decode cX5_copy 39 = .ok (.iload_n 3, 1) := by decide +kernel
theorem dX5_copy_40 : decode cX5_copy 40 = .ok (.iaload, 1) := by decide +kernel
theorem dX5_copy_41 : decode cX5_copy 41 = .ok (.ifCond .ge 6, 3) := by decide +kernel
theorem dX5_copy_44 : decode cX5_copy 44 = .ok (.bipush (-11), 2) := by decide +kernel
theorem dX5_copy_46 : decode cX5_copy 46 = .ok (.ireturn, 1) := by decide +kernel
theorem dX5_copy_47 : decode cX5_copy 47 = .ok (.aload_n 0, 1) := by decide +kernel
theorem dX5_copy_48 : decode cX5_copy 48 = .ok (.getfield 52, 3) := by decide +kernel
theorem dX5_copy_51 : decode cX5_copy 51 = .ok (.iload_n 1, 1) := by decide +kernel
theorem dX5_copy_52 : decode cX5_copy 52 = .ok (.iaload, 1) := by decide +kernel
theorem dX5_copy_53 : decode cX5_copy 53 = .ok (.aload_n 0, 1) := by decide +kernel
theorem dX5_copy_54 : decode cX5_copy 54 = .ok (.getfield 52, 3) := by decide +kernel
theorem dX5_copy_57 : decode cX5_copy 57 = .ok (.iload_n 3, 1) := by decide +kernel
theorem dX5_copy_58 : decode cX5_copy 58 = .ok (.iaload, 1) := by decide +kernel
theorem dX5_copy_59 : decode cX5_copy 59 = .ok (.if_icmp .eq 6, 3) := by decide +kernel
theorem dX5_copy_62 : decode cX5_copy 62 = .ok (.bipush (-12), 2) := by decide +kernel
theorem dX5_copy_64 : decode cX5_copy 64 = .ok (.ireturn, 1) := by decide +kernel
theorem dX5_copy_65 : decode cX5_copy 65 = .ok (.iload 5, 2) := by decide +kernel
theorem dX5_copy_67 : decode cX5_copy 67 = .ok (.ifCond .lt 44, 3) := by decide +kernel
theorem dX5_copy_70 : decode cX5_copy 70 = .ok (.iload_n 2, 1) := by decide +kernel
theorem dX5_copy_71 : decode cX5_copy 71 = .ok (.i2l, 1) := by decide +kernel
theorem dX5_copy_72 : decode cX5_copy 72 = .ok (.lconst 0, 1) := by decide +kernel
theorem dX5_copy_73 : decode cX5_copy 73 = .ok (.aload_n 0, 1) := by decide +kernel
theorem dX5_copy_74 : decode cX5_copy 74 = .ok (.getfield 55, 3) := by decide +kernel
theorem dX5_copy_77 : decode cX5_copy 77 = .ok (.iload_n 1, 1) := by decide +kernel
theorem dX5_copy_78 : decode cX5_copy 78 = .ok (.iaload, 1) := by decide +kernel
theorem dX5_copy_79 : decode cX5_copy 79 = .ok (.i2l, 1) := by decide +kernel
theorem dX5_copy_80 : decode cX5_copy 80 = .ok (.iload 5, 2) := by decide +kernel
theorem dX5_copy_82 : decode cX5_copy 82 = .ok (.i2l, 1) := by decide +kernel
theorem dX5_copy_83 : decode cX5_copy 83 = .ok (.lsub, 1) := by decide +kernel
theorem dX5_copy_84 : decode cX5_copy 84 = .ok (.invokestatic 68, 3) := by decide +kernel
theorem dX5_copy_87 : decode cX5_copy 87 = .ok (.ifCond .eq 24, 3) := by decide +kernel
theorem dX5_copy_90 : decode cX5_copy 90 = .ok (.iload 4, 2) := by decide +kernel
theorem dX5_copy_92 : decode cX5_copy 92 = .ok (.i2l, 1) := by decide +kernel
theorem dX5_copy_93 : decode cX5_copy 93 = .ok (.lconst 0, 1) := by decide +kernel
theorem dX5_copy_94 : decode cX5_copy 94 = .ok (.aload_n 0, 1) := by decide +kernel
theorem dX5_copy_95 : decode cX5_copy 95 = .ok (.getfield 55, 3) := by decide +kernel
theorem dX5_copy_98 : decode cX5_copy 98 = .ok (.iload_n 3, 1) := by decide +kernel
theorem dX5_copy_99 : decode cX5_copy 99 = .ok (.iaload, 1) := by decide +kernel
theorem dX5_copy_100 : decode cX5_copy 100 = .ok (.i2l, 1) := by decide +kernel
theorem dX5_copy_101 : decode cX5_copy 101 = .ok (.iload 5, 2) := by decide +kernel
theorem dX5_copy_103 : decode cX5_copy 103 = .ok (.i2l, 1) := by decide +kernel
theorem dX5_copy_104 : decode cX5_copy 104 = .ok (.lsub, 1) := by decide +kernel
theorem dX5_copy_105 : decode cX5_copy 105 = .ok (.invokestatic 68, 3) := by decide +kernel
theorem dX5_copy_108 : decode cX5_copy 108 = .ok (.ifCond .ne 6, 3) := by decide +kernel
theorem dX5_copy_111 : decode cX5_copy 111 = .ok (.bipush (-13), 2) := by decide +kernel
theorem dX5_copy_113 : decode cX5_copy 113 = .ok (.ireturn, 1) := by decide +kernel
theorem dX5_copy_114 : decode cX5_copy 114 = .ok (.iconst 0, 1) := by decide +kernel
theorem dX5_copy_115 : decode cX5_copy 115 = .ok (.istore 6, 2) := by decide +kernel
theorem dX5_copy_117 : decode cX5_copy 117 = .ok (.iload 6, 2) := by decide +kernel
theorem dX5_copy_119 : decode cX5_copy 119 = .ok (.iload 5, 2) := by decide +kernel
theorem dX5_copy_121 : decode cX5_copy 121 = .ok (.if_icmp .ge 30, 3) := by decide +kernel
theorem dX5_copy_124 : decode cX5_copy 124 = .ok (.aload_n 0, 1) := by decide +kernel
theorem dX5_copy_125 : decode cX5_copy 125 = .ok (.getfield 61, 3) := by decide +kernel
theorem dX5_copy_128 : decode cX5_copy 128 = .ok (.iload 6, 2) := by decide +kernel
theorem dX5_copy_130 : decode cX5_copy 130 = .ok (.aload_n 0, 1) := by decide +kernel
theorem dX5_copy_131 : decode cX5_copy 131 = .ok (.getfield 58, 3) := by decide +kernel
theorem dX5_copy_134 : decode cX5_copy 134 = .ok (.bipush 24, 2) := by decide +kernel
theorem dX5_copy_136 : decode cX5_copy 136 = .ok (.iload_n 1, 1) := by decide +kernel
theorem dX5_copy_137 : decode cX5_copy 137 = .ok (.imul, 1) := by decide +kernel
theorem dX5_copy_138 : decode cX5_copy 138 = .ok (.iload_n 2, 1) := by decide +kernel
theorem dX5_copy_139 : decode cX5_copy 139 = .ok (.iadd, 1) := by decide +kernel
theorem dX5_copy_140 : decode cX5_copy 140 = .ok (.iload 6, 2) := by decide +kernel
theorem dX5_copy_142 : decode cX5_copy 142 = .ok (.iadd, 1) := by decide +kernel
theorem dX5_copy_143 : decode cX5_copy 143 = .ok (.iaload, 1) := by decide +kernel
theorem dX5_copy_144 : decode cX5_copy 144 = .ok (.iastore, 1) := by decide +kernel
theorem dX5_copy_145 : decode cX5_copy 145 = .ok (.iinc 6 1, 3) := by decide +kernel
theorem dX5_copy_148 : decode cX5_copy 148 = .ok (.goto (-31), 3) := by decide +kernel
theorem dX5_copy_151 : decode cX5_copy 151 = .ok (.iconst 0, 1) := by decide +kernel
theorem dX5_copy_152 : decode cX5_copy 152 = .ok (.istore 6, 2) := by decide +kernel
theorem dX5_copy_154 : decode cX5_copy 154 = .ok (.iload 6, 2) := by decide +kernel
theorem dX5_copy_156 : decode cX5_copy 156 = .ok (.iload 5, 2) := by decide +kernel
theorem dX5_copy_158 : decode cX5_copy 158 = .ok (.if_icmp .ge 31, 3) := by decide +kernel
theorem dX5_copy_161 : decode cX5_copy 161 = .ok (.aload_n 0, 1) := by decide +kernel
theorem dX5_copy_162 : decode cX5_copy 162 = .ok (.getfield 58, 3) := by decide +kernel
theorem dX5_copy_165 : decode cX5_copy 165 = .ok (.bipush 24, 2) := by decide +kernel
theorem dX5_copy_167 : decode cX5_copy 167 = .ok (.iload_n 3, 1) := by decide +kernel
theorem dX5_copy_168 : decode cX5_copy 168 = .ok (.imul, 1) := by decide +kernel
theorem dX5_copy_169 : decode cX5_copy 169 = .ok (.iload 4, 2) := by decide +kernel
theorem dX5_copy_171 : decode cX5_copy 171 = .ok (.iadd, 1) := by decide +kernel
theorem dX5_copy_172 : decode cX5_copy 172 = .ok (.iload 6, 2) := by decide +kernel
theorem dX5_copy_174 : decode cX5_copy 174 = .ok (.iadd, 1) := by decide +kernel
theorem dX5_copy_175 : decode cX5_copy 175 = .ok (.aload_n 0, 1) := by decide +kernel
theorem dX5_copy_176 : decode cX5_copy 176 = .ok (.getfield 61, 3) := by decide +kernel
theorem dX5_copy_179 : decode cX5_copy 179 = .ok (.iload 6, 2) := by decide +kernel
theorem dX5_copy_181 : decode cX5_copy 181 = .ok (.iaload, 1) := by decide +kernel
theorem dX5_copy_182 : decode cX5_copy 182 = .ok (.iastore, 1) := by decide +kernel
theorem dX5_copy_183 : decode cX5_copy 183 = .ok (.iinc 6 1, 3) := by decide +kernel
theorem dX5_copy_186 : decode cX5_copy 186 = .ok (.goto (-32), 3) := by decide +kernel
theorem dX5_copy_189 : decode cX5_copy 189 = .ok (.iload 5, 2) := by decide +kernel
theorem dX5_copy_191 : decode cX5_copy 191 = .ok (.ireturn, 1) := by decide +kernel
theorem dJ6_bitCount_0f7a4_0 : decode cJ6_bitCount_0f7a4 0 = .ok (.iload_n 0, 1) := by decide +kernel
theorem dJ6_bitCount_0f7a4_1 : decode cJ6_bitCount_0f7a4 1 = .ok (.iload_n 0, 1) := by decide +kernel
theorem dJ6_bitCount_0f7a4_2 : decode cJ6_bitCount_0f7a4 2 = .ok (.iconst 1, 1) := by decide +kernel
theorem dJ6_bitCount_0f7a4_3 : decode cJ6_bitCount_0f7a4 3 = .ok (.iushr, 1) := by decide +kernel
theorem dJ6_bitCount_0f7a4_4 : decode cJ6_bitCount_0f7a4 4 = .ok (.ldc_w 265, 3) := by decide +kernel
theorem dJ6_bitCount_0f7a4_7 : decode cJ6_bitCount_0f7a4 7 = .ok (.iand, 1) := by decide +kernel
theorem dJ6_bitCount_0f7a4_8 : decode cJ6_bitCount_0f7a4 8 = .ok (.isub, 1) := by decide +kernel
theorem dJ6_bitCount_0f7a4_9 : decode cJ6_bitCount_0f7a4 9 = .ok (.istore_n 0, 1) := by decide +kernel
theorem dJ6_bitCount_0f7a4_10 : decode cJ6_bitCount_0f7a4 10 = .ok (.iload_n 0, 1) := by decide +kernel
theorem dJ6_bitCount_0f7a4_11 : decode cJ6_bitCount_0f7a4 11 = .ok (.ldc_w 266, 3) := by decide +kernel
theorem dJ6_bitCount_0f7a4_14 : decode cJ6_bitCount_0f7a4 14 = .ok (.iand, 1) := by decide +kernel
theorem dJ6_bitCount_0f7a4_15 : decode cJ6_bitCount_0f7a4 15 = .ok (.iload_n 0, 1) := by decide +kernel
theorem dJ6_bitCount_0f7a4_16 : decode cJ6_bitCount_0f7a4 16 = .ok (.iconst 2, 1) := by decide +kernel
theorem dJ6_bitCount_0f7a4_17 : decode cJ6_bitCount_0f7a4 17 = .ok (.iushr, 1) := by decide +kernel
theorem dJ6_bitCount_0f7a4_18 : decode cJ6_bitCount_0f7a4 18 = .ok (.ldc_w 266, 3) := by decide +kernel
theorem dJ6_bitCount_0f7a4_21 : decode cJ6_bitCount_0f7a4 21 = .ok (.iand, 1) := by decide +kernel
theorem dJ6_bitCount_0f7a4_22 : decode cJ6_bitCount_0f7a4 22 = .ok (.iadd, 1) := by decide +kernel
theorem dJ6_bitCount_0f7a4_23 : decode cJ6_bitCount_0f7a4 23 = .ok (.istore_n 0, 1) := by decide +kernel
theorem dJ6_bitCount_0f7a4_24 : decode cJ6_bitCount_0f7a4 24 = .ok (.iload_n 0, 1) := by decide +kernel
theorem dJ6_bitCount_0f7a4_25 : decode cJ6_bitCount_0f7a4 25 = .ok (.iload_n 0, 1) := by decide +kernel
theorem dJ6_bitCount_0f7a4_26 : decode cJ6_bitCount_0f7a4 26 = .ok (.iconst 4, 1) := by decide +kernel
theorem dJ6_bitCount_0f7a4_27 : decode cJ6_bitCount_0f7a4 27 = .ok (.iushr, 1) := by decide +kernel
theorem dJ6_bitCount_0f7a4_28 : decode cJ6_bitCount_0f7a4 28 = .ok (.iadd, 1) := by decide +kernel
theorem dJ6_bitCount_0f7a4_29 : decode cJ6_bitCount_0f7a4 29 = .ok (.ldc_w 267, 3) := by decide +kernel
theorem dJ6_bitCount_0f7a4_32 : decode cJ6_bitCount_0f7a4 32 = .ok (.iand, 1) := by decide +kernel
theorem dJ6_bitCount_0f7a4_33 : decode cJ6_bitCount_0f7a4 33 = .ok (.istore_n 0, 1) := by decide +kernel
theorem dJ6_bitCount_0f7a4_34 : decode cJ6_bitCount_0f7a4 34 = .ok (.iload_n 0, 1) := by decide +kernel
theorem dJ6_bitCount_0f7a4_35 : decode cJ6_bitCount_0f7a4 35 = .ok (.iload_n 0, 1) := by decide +kernel
theorem dJ6_bitCount_0f7a4_36 : decode cJ6_bitCount_0f7a4 36 = .ok (.bipush 8, 2) := by decide +kernel
theorem dJ6_bitCount_0f7a4_38 : decode cJ6_bitCount_0f7a4 38 = .ok (.iushr, 1) := by decide +kernel
theorem dJ6_bitCount_0f7a4_39 : decode cJ6_bitCount_0f7a4 39 = .ok (.iadd, 1) := by decide +kernel
theorem dJ6_bitCount_0f7a4_40 : decode cJ6_bitCount_0f7a4 40 = .ok (.istore_n 0, 1) := by decide +kernel
theorem dJ6_bitCount_0f7a4_41 : decode cJ6_bitCount_0f7a4 41 = .ok (.iload_n 0, 1) := by decide +kernel
theorem dJ6_bitCount_0f7a4_42 : decode cJ6_bitCount_0f7a4 42 = .ok (.iload_n 0, 1) := by decide +kernel
theorem dJ6_bitCount_0f7a4_43 : decode cJ6_bitCount_0f7a4 43 = .ok (.bipush 16, 2) := by decide +kernel
theorem dJ6_bitCount_0f7a4_45 : decode cJ6_bitCount_0f7a4 45 = .ok (.iushr, 1) := by decide +kernel
theorem dJ6_bitCount_0f7a4_46 : decode cJ6_bitCount_0f7a4 46 = .ok (.iadd, 1) := by decide +kernel
theorem dJ6_bitCount_0f7a4_47 : decode cJ6_bitCount_0f7a4 47 = .ok (.istore_n 0, 1) := by decide +kernel
theorem dJ6_bitCount_0f7a4_48 : decode cJ6_bitCount_0f7a4 48 = .ok (.iload_n 0, 1) := by decide +kernel
theorem dJ6_bitCount_0f7a4_49 : decode cJ6_bitCount_0f7a4 49 = .ok (.bipush 63, 2) := by decide +kernel
theorem dJ6_bitCount_0f7a4_51 : decode cJ6_bitCount_0f7a4 51 = .ok (.iand, 1) := by decide +kernel
theorem dJ6_bitCount_0f7a4_52 : decode cJ6_bitCount_0f7a4 52 = .ok (.ireturn, 1) := by decide +kernel
theorem dJ9_min_7cf53_0 : decode cJ9_min_7cf53 0 = .ok (.iload_n 0, 1) := by decide +kernel
theorem dJ9_min_7cf53_1 : decode cJ9_min_7cf53 1 = .ok (.iload_n 1, 1) := by decide +kernel
theorem dJ9_min_7cf53_2 : decode cJ9_min_7cf53 2 = .ok (.if_icmp .gt 7, 3) := by decide +kernel
theorem dJ9_min_7cf53_5 : decode cJ9_min_7cf53 5 = .ok (.iload_n 0, 1) := by decide +kernel
theorem dJ9_min_7cf53_6 : decode cJ9_min_7cf53 6 = .ok (.goto 4, 3) := by decide +kernel
theorem dJ9_min_7cf53_9 : decode cJ9_min_7cf53 9 = .ok (.iload_n 1, 1) := by decide +kernel
theorem dJ9_min_7cf53_10 : decode cJ9_min_7cf53 10 = .ok (.ireturn, 1) := by decide +kernel
theorem dL_law_0 : decode cL_law 0 = .ok (.new 7, 3) := by decide +kernel
theorem dL_law_3 : decode cL_law 3 = .ok (.dup, 1) := by decide +kernel
theorem dL_law_4 : decode cL_law 4 = .ok (.invokespecial 9, 3) := by decide +kernel
theorem dL_law_7 : decode cL_law 7 = .ok (.astore_n 1, 1) := by decide +kernel
theorem dL_law_8 : decode cL_law 8 = .ok (.new 10, 3) := by decide +kernel
theorem dL_law_11 : decode cL_law 11 = .ok (.dup, 1) := by decide +kernel
theorem dL_law_12 : decode cL_law 12 = .ok (.invokespecial 12, 3) := by decide +kernel
theorem dL_law_15 : decode cL_law 15 = .ok (.astore_n 2, 1) := by decide +kernel
theorem dL_law_16 : decode cL_law 16 = .ok (.iconst 0, 1) := by decide +kernel
theorem dL_law_17 : decode cL_law 17 = .ok (.istore_n 3, 1) := by decide +kernel
theorem dL_law_18 : decode cL_law 18 = .ok (.iload_n 3, 1) := by decide +kernel
theorem dL_law_19 : decode cL_law 19 = .ok (.aload_n 0, 1) := by decide +kernel
theorem dL_law_20 : decode cL_law 20 = .ok (.arraylength, 1) := by decide +kernel
theorem dL_law_21 : decode cL_law 21 = .ok (.bipush 6, 2) := by decide +kernel
theorem dL_law_23 : decode cL_law 23 = .ok (.isub, 1) := by decide +kernel
theorem dL_law_24 : decode cL_law 24 = .ok (.if_icmp .gt 1095, 3) := by decide +kernel
theorem dL_law_27 : decode cL_law 27 = .ok (.aload_n 0, 1) := by decide +kernel
theorem dL_law_28 : decode cL_law 28 = .ok (.iload_n 3, 1) := by decide +kernel
theorem dL_law_29 : decode cL_law 29 = .ok (.iaload, 1) := by decide +kernel
theorem dL_law_30 : decode cL_law 30 = .ok (.bipush 31, 2) := by decide +kernel
theorem dL_law_32 : decode cL_law 32 = .ok (.iand, 1) := by decide +kernel
theorem dL_law_33 : decode cL_law 33 = .ok (.tableswitch 1080 0 28 #[131, 174, 217, 270, 303, 336, 399, 412, 425, 438, 461, 494, 517, 530, 543, 556, 589, 622, 655, 679, 732, 745, 758, 812, 855, 898, 921, 974, 1017], 131) := by decide +kernel
theorem dL_law_164 : decode cL_law 164 = .ok (.aload_n 1, 1) := by decide +kernel
theorem dL_law_165 : decode cL_law 165 = .ok (.aload_n 0, 1) := by decide +kernel
theorem dL_law_166 : decode cL_law 166 = .ok (.iload_n 3, 1) := by decide +kernel
theorem dL_law_167 : decode cL_law 167 = .ok (.iconst 1, 1) := by decide +kernel
theorem dL_law_168 : decode cL_law 168 = .ok (.iadd, 1) := by decide +kernel
theorem dL_law_169 : decode cL_law 169 = .ok (.iaload, 1) := by decide +kernel
theorem dL_law_170 : decode cL_law 170 = .ok (.aload_n 0, 1) := by decide +kernel
theorem dL_law_171 : decode cL_law 171 = .ok (.iload_n 3, 1) := by decide +kernel
theorem dL_law_172 : decode cL_law 172 = .ok (.iconst 2, 1) := by decide +kernel
theorem dL_law_173 : decode cL_law 173 = .ok (.iadd, 1) := by decide +kernel
theorem dL_law_174 : decode cL_law 174 = .ok (.iaload, 1) := by decide +kernel
theorem dL_law_175 : decode cL_law 175 = .ok (.aload_n 0, 1) := by decide +kernel
theorem dL_law_176 : decode cL_law 176 = .ok (.iload_n 3, 1) := by decide +kernel
theorem dL_law_177 : decode cL_law 177 = .ok (.iconst 3, 1) := by decide +kernel
theorem dL_law_178 : decode cL_law 178 = .ok (.iadd, 1) := by decide +kernel
theorem dL_law_179 : decode cL_law 179 = .ok (.iaload, 1) := by decide +kernel
theorem dL_law_180 : decode cL_law 180 = .ok (.invokevirtual 13, 3) := by decide +kernel
theorem dL_law_183 : decode cL_law 183 = .ok (.aload_n 2, 1) := by decide +kernel
theorem dL_law_184 : decode cL_law 184 = .ok (.aload_n 0, 1) := by decide +kernel
theorem dL_law_185 : decode cL_law 185 = .ok (.iload_n 3, 1) := by decide +kernel
theorem dL_law_186 : decode cL_law 186 = .ok (.iconst 1, 1) := by decide +kernel
theorem dL_law_187 : decode cL_law 187 = .ok (.iadd, 1) := by decide +kernel
theorem dL_law_188 : decode cL_law 188 = .ok (.iaload, 1) := by decide +kernel
theorem dL_law_189 : decode cL_law 189 = .ok (.aload_n 0, 1) := by decide +kernel
theorem dL_law_190 : decode cL_law 190 = .ok (.iload_n 3, 1) := by decide +kernel
theorem dL_law_191 : decode cL_law 191 = .ok (.iconst 2, 1) := by decide +kernel
theorem dL_law_192 : decode cL_law 192 = .ok (.iadd, 1) := by decide +kernel
theorem dL_law_193 : decode cL_law 193 = .ok (.iaload, 1) := by decide +kernel
theorem dL_law_194 : decode cL_law 194 = .ok (.aload_n 0, 1) := by decide +kernel
theorem dL_law_195 : decode cL_law 195 = .ok (.iload_n 3, 1) := by decide +kernel
theorem dL_law_196 : decode cL_law 196 = .ok (.iconst 3, 1) := by decide +kernel
theorem dL_law_197 : decode cL_law 197 = .ok (.iadd, 1) := by decide +kernel
theorem dL_law_198 : decode cL_law 198 = .ok (.iaload, 1) := by decide +kernel
theorem dL_law_199 : decode cL_law 199 = .ok (.invokevirtual 17, 3) := by decide +kernel
theorem dL_law_202 : decode cL_law 202 = .ok (.if_icmp .eq 911, 3) := by decide +kernel
theorem dL_law_205 : decode cL_law 205 = .ok (.iconst 0, 1) := by decide +kernel
theorem dL_law_206 : decode cL_law 206 = .ok (.ireturn, 1) := by decide +kernel
theorem dL_law_207 : decode cL_law 207 = .ok (.aload_n 1, 1) := by decide +kernel
theorem dL_law_208 : decode cL_law 208 = .ok (.aload_n 0, 1) := by decide +kernel
theorem dL_law_209 : decode cL_law 209 = .ok (.iload_n 3, 1) := by decide +kernel
theorem dL_law_210 : decode cL_law 210 = .ok (.iconst 1, 1) := by decide +kernel
theorem dL_law_211 : decode cL_law 211 = .ok (.iadd, 1) := by decide +kernel
theorem dL_law_212 : decode cL_law 212 = .ok (.iaload, 1) := by decide +kernel
theorem dL_law_213 : decode cL_law 213 = .ok (.aload_n 0, 1) := by decide +kernel
theorem dL_law_214 : decode cL_law 214 = .ok (.iload_n 3, 1) := by decide +kernel
theorem dL_law_215 : decode cL_law 215 = .ok (.iconst 2, 1) := by decide +kernel
theorem dL_law_216 : decode cL_law 216 = .ok (.iadd, 1) := by decide +kernel
theorem dL_law_217 : decode cL_law 217 = .ok (.iaload, 1) := by decide +kernel
theorem dL_law_218 : decode cL_law 218 = .ok (.aload_n 0, 1) := by decide +kernel
theorem dL_law_219 : decode cL_law 219 = .ok (.iload_n 3, 1) := by decide +kernel
theorem dL_law_220 : decode cL_law 220 = .ok (.iconst 3, 1) := by decide +kernel
theorem dL_law_221 : decode cL_law 221 = .ok (.iadd, 1) := by decide +kernel
theorem dL_law_222 : decode cL_law 222 = .ok (.iaload, 1) := by decide +kernel
theorem dL_law_223 : decode cL_law 223 = .ok (.invokevirtual 18, 3) := by decide +kernel
theorem dL_law_226 : decode cL_law 226 = .ok (.aload_n 2, 1) := by decide +kernel
theorem dL_law_227 : decode cL_law 227 = .ok (.aload_n 0, 1) := by decide +kernel
theorem dL_law_228 : decode cL_law 228 = .ok (.iload_n 3, 1) := by decide +kernel
theorem dL_law_229 : decode cL_law 229 = .ok (.iconst 1, 1) := by decide +kernel
theorem dL_law_230 : decode cL_law 230 = .ok (.iadd, 1) := by decide +kernel
theorem dL_law_231 : decode cL_law 231 = .ok (.iaload, 1) := by decide +kernel
theorem dL_law_232 : decode cL_law 232 = .ok (.aload_n 0, 1) := by decide +kernel
theorem dL_law_233 : decode cL_law 233 = .ok (.iload_n 3, 1) := by decide +kernel
theorem dL_law_234 : decode cL_law 234 = .ok (.iconst 2, 1) := by decide +kernel
theorem dL_law_235 : decode cL_law 235 = .ok (.iadd, 1) := by decide +kernel
theorem dL_law_236 : decode cL_law 236 = .ok (.iaload, 1) := by decide +kernel
theorem dL_law_237 : decode cL_law 237 = .ok (.aload_n 0, 1) := by decide +kernel
theorem dL_law_238 : decode cL_law 238 = .ok (.iload_n 3, 1) := by decide +kernel
theorem dL_law_239 : decode cL_law 239 = .ok (.iconst 3, 1) := by decide +kernel
theorem dL_law_240 : decode cL_law 240 = .ok (.iadd, 1) := by decide +kernel
theorem dL_law_241 : decode cL_law 241 = .ok (.iaload, 1) := by decide +kernel
theorem dL_law_242 : decode cL_law 242 = .ok (.invokevirtual 21, 3) := by decide +kernel
theorem dL_law_245 : decode cL_law 245 = .ok (.if_icmp .eq 868, 3) := by decide +kernel
theorem dL_law_248 : decode cL_law 248 = .ok (.iconst 0, 1) := by decide +kernel
theorem dL_law_249 : decode cL_law 249 = .ok (.ireturn, 1) := by decide +kernel
theorem dL_law_250 : decode cL_law 250 = .ok (.aload_n 1, 1) := by decide +kernel
theorem dL_law_251 : decode cL_law 251 = .ok (.aload_n 0, 1) := by decide +kernel
theorem dL_law_252 : decode cL_law 252 = .ok (.iload_n 3, 1) := by decide +kernel
theorem dL_law_253 : decode cL_law 253 = .ok (.iconst 1, 1) := by decide +kernel
theorem dL_law_254 : decode cL_law 254 = .ok (.iadd, 1) := by decide +kernel
theorem dL_law_255 : decode cL_law 255 = .ok (.iaload, 1) := by decide +kernel
theorem dL_law_256 : decode cL_law 256 = .ok (.aload_n 0, 1) := by decide +kernel
theorem dL_law_257 : decode cL_law 257 = .ok (.iload_n 3, 1) := by decide +kernel
theorem dL_law_258 : decode cL_law 258 = .ok (.iconst 2, 1) := by decide +kernel
theorem dL_law_259 : decode cL_law 259 = .ok (.iadd, 1) := by decide +kernel
theorem dL_law_260 : decode cL_law 260 = .ok (.iaload, 1) := by decide +kernel
theorem dL_law_261 : decode cL_law 261 = .ok (.aload_n 0, 1) := by decide +kernel
theorem dL_law_262 : decode cL_law 262 = .ok (.iload_n 3, 1) := by decide +kernel
theorem dL_law_263 : decode cL_law 263 = .ok (.iconst 3, 1) := by decide +kernel
theorem dL_law_264 : decode cL_law 264 = .ok (.iadd, 1) := by decide +kernel
theorem dL_law_265 : decode cL_law 265 = .ok (.iaload, 1) := by decide +kernel
theorem dL_law_266 : decode cL_law 266 = .ok (.aload_n 0, 1) := by decide +kernel
theorem dL_law_267 : decode cL_law 267 = .ok (.iload_n 3, 1) := by decide +kernel
theorem dL_law_268 : decode cL_law 268 = .ok (.iconst 4, 1) := by decide +kernel
theorem dL_law_269 : decode cL_law 269 = .ok (.iadd, 1) := by decide +kernel
theorem dL_law_270 : decode cL_law 270 = .ok (.iaload, 1) := by decide +kernel
theorem dL_law_271 : decode cL_law 271 = .ok (.invokevirtual 22, 3) := by decide +kernel
theorem dL_law_274 : decode cL_law 274 = .ok (.aload_n 2, 1) := by decide +kernel
theorem dL_law_275 : decode cL_law 275 = .ok (.aload_n 0, 1) := by decide +kernel
theorem dL_law_276 : decode cL_law 276 = .ok (.iload_n 3, 1) := by decide +kernel
theorem dL_law_277 : decode cL_law 277 = .ok (.iconst 1, 1) := by decide +kernel
theorem dL_law_278 : decode cL_law 278 = .ok (.iadd, 1) := by decide +kernel
theorem dL_law_279 : decode cL_law 279 = .ok (.iaload, 1) := by decide +kernel
theorem dL_law_280 : decode cL_law 280 = .ok (.aload_n 0, 1) := by decide +kernel
theorem dL_law_281 : decode cL_law 281 = .ok (.iload_n 3, 1) := by decide +kernel
theorem dL_law_282 : decode cL_law 282 = .ok (.iconst 2, 1) := by decide +kernel
theorem dL_law_283 : decode cL_law 283 = .ok (.iadd, 1) := by decide +kernel
theorem dL_law_284 : decode cL_law 284 = .ok (.iaload, 1) := by decide +kernel
theorem dL_law_285 : decode cL_law 285 = .ok (.aload_n 0, 1) := by decide +kernel
theorem dL_law_286 : decode cL_law 286 = .ok (.iload_n 3, 1) := by decide +kernel
theorem dL_law_287 : decode cL_law 287 = .ok (.iconst 3, 1) := by decide +kernel
theorem dL_law_288 : decode cL_law 288 = .ok (.iadd, 1) := by decide +kernel
theorem dL_law_289 : decode cL_law 289 = .ok (.iaload, 1) := by decide +kernel
theorem dL_law_290 : decode cL_law 290 = .ok (.aload_n 0, 1) := by decide +kernel
theorem dL_law_291 : decode cL_law 291 = .ok (.iload_n 3, 1) := by decide +kernel
theorem dL_law_292 : decode cL_law 292 = .ok (.iconst 4, 1) := by decide +kernel
theorem dL_law_293 : decode cL_law 293 = .ok (.iadd, 1) := by decide +kernel
theorem dL_law_294 : decode cL_law 294 = .ok (.iaload, 1) := by decide +kernel
theorem dL_law_295 : decode cL_law 295 = .ok (.invokevirtual 26, 3) := by decide +kernel
theorem dL_law_298 : decode cL_law 298 = .ok (.if_icmp .eq 815, 3) := by decide +kernel
theorem dL_law_301 : decode cL_law 301 = .ok (.iconst 0, 1) := by decide +kernel
theorem dL_law_302 : decode cL_law 302 = .ok (.ireturn, 1) := by decide +kernel
theorem dL_law_303 : decode cL_law 303 = .ok (.aload_n 1, 1) := by decide +kernel
theorem dL_law_304 : decode cL_law 304 = .ok (.aload_n 0, 1) := by decide +kernel
theorem dL_law_305 : decode cL_law 305 = .ok (.iload_n 3, 1) := by decide +kernel
theorem dL_law_306 : decode cL_law 306 = .ok (.iconst 1, 1) := by decide +kernel
theorem dL_law_307 : decode cL_law 307 = .ok (.iadd, 1) := by decide +kernel
theorem dL_law_308 : decode cL_law 308 = .ok (.iaload, 1) := by decide +kernel
theorem dL_law_309 : decode cL_law 309 = .ok (.aload_n 0, 1) := by decide +kernel
theorem dL_law_310 : decode cL_law 310 = .ok (.iload_n 3, 1) := by decide +kernel
theorem dL_law_311 : decode cL_law 311 = .ok (.iconst 2, 1) := by decide +kernel
theorem dL_law_312 : decode cL_law 312 = .ok (.iadd, 1) := by decide +kernel
theorem dL_law_313 : decode cL_law 313 = .ok (.iaload, 1) := by decide +kernel
theorem dL_law_314 : decode cL_law 314 = .ok (.invokevirtual 27, 3) := by decide +kernel
theorem dL_law_317 : decode cL_law 317 = .ok (.aload_n 2, 1) := by decide +kernel
theorem dL_law_318 : decode cL_law 318 = .ok (.aload_n 0, 1) := by decide +kernel
theorem dL_law_319 : decode cL_law 319 = .ok (.iload_n 3, 1) := by decide +kernel
theorem dL_law_320 : decode cL_law 320 = .ok (.iconst 1, 1) := by decide +kernel
theorem dL_law_321 : decode cL_law 321 = .ok (.iadd, 1) := by decide +kernel
theorem dL_law_322 : decode cL_law 322 = .ok (.iaload, 1) := by decide +kernel
theorem dL_law_323 : decode cL_law 323 = .ok (.aload_n 0, 1) := by decide +kernel
theorem dL_law_324 : decode cL_law 324 = .ok (.iload_n 3, 1) := by decide +kernel
theorem dL_law_325 : decode cL_law 325 = .ok (.iconst 2, 1) := by decide +kernel
theorem dL_law_326 : decode cL_law 326 = .ok (.iadd, 1) := by decide +kernel
theorem dL_law_327 : decode cL_law 327 = .ok (.iaload, 1) := by decide +kernel
theorem dL_law_328 : decode cL_law 328 = .ok (.invokevirtual 31, 3) := by decide +kernel
theorem dL_law_331 : decode cL_law 331 = .ok (.if_icmp .eq 782, 3) := by decide +kernel
theorem dL_law_334 : decode cL_law 334 = .ok (.iconst 0, 1) := by decide +kernel
theorem dL_law_335 : decode cL_law 335 = .ok (.ireturn, 1) := by decide +kernel
theorem dL_law_336 : decode cL_law 336 = .ok (.aload_n 1, 1) := by decide +kernel
theorem dL_law_337 : decode cL_law 337 = .ok (.aload_n 0, 1) := by decide +kernel
theorem dL_law_338 : decode cL_law 338 = .ok (.iload_n 3, 1) := by decide +kernel
theorem dL_law_339 : decode cL_law 339 = .ok (.iconst 1, 1) := by decide +kernel
theorem dL_law_340 : decode cL_law 340 = .ok (.iadd, 1) := by decide +kernel
theorem dL_law_341 : decode cL_law 341 = .ok (.iaload, 1) := by decide +kernel
theorem dL_law_342 : decode cL_law 342 = .ok (.aload_n 0, 1) := by decide +kernel
theorem dL_law_343 : decode cL_law 343 = .ok (.iload_n 3, 1) := by decide +kernel
theorem dL_law_344 : decode cL_law 344 = .ok (.iconst 2, 1) := by decide +kernel
theorem dL_law_345 : decode cL_law 345 = .ok (.iadd, 1) := by decide +kernel
theorem dL_law_346 : decode cL_law 346 = .ok (.iaload, 1) := by decide +kernel
theorem dL_law_347 : decode cL_law 347 = .ok (.invokevirtual 32, 3) := by decide +kernel
theorem dL_law_350 : decode cL_law 350 = .ok (.aload_n 2, 1) := by decide +kernel
theorem dL_law_351 : decode cL_law 351 = .ok (.aload_n 0, 1) := by decide +kernel
theorem dL_law_352 : decode cL_law 352 = .ok (.iload_n 3, 1) := by decide +kernel
theorem dL_law_353 : decode cL_law 353 = .ok (.iconst 1, 1) := by decide +kernel
theorem dL_law_354 : decode cL_law 354 = .ok (.iadd, 1) := by decide +kernel
theorem dL_law_355 : decode cL_law 355 = .ok (.iaload, 1) := by decide +kernel
theorem dL_law_356 : decode cL_law 356 = .ok (.aload_n 0, 1) := by decide +kernel
theorem dL_law_357 : decode cL_law 357 = .ok (.iload_n 3, 1) := by decide +kernel
theorem dL_law_358 : decode cL_law 358 = .ok (.iconst 2, 1) := by decide +kernel
theorem dL_law_359 : decode cL_law 359 = .ok (.iadd, 1) := by decide +kernel
theorem dL_law_360 : decode cL_law 360 = .ok (.iaload, 1) := by decide +kernel
theorem dL_law_361 : decode cL_law 361 = .ok (.invokevirtual 35, 3) := by decide +kernel
theorem dL_law_364 : decode cL_law 364 = .ok (.if_icmp .eq 749, 3) := by decide +kernel
theorem dL_law_367 : decode cL_law 367 = .ok (.iconst 0, 1) := by decide +kernel
theorem dL_law_368 : decode cL_law 368 = .ok (.ireturn, 1) := by decide +kernel
theorem dL_law_369 : decode cL_law 369 = .ok (.aload_n 1, 1) := by decide +kernel
theorem dL_law_370 : decode cL_law 370 = .ok (.aload_n 0, 1) := by decide +kernel
theorem dL_law_371 : decode cL_law 371 = .ok (.iload_n 3, 1) := by decide +kernel
theorem dL_law_372 : decode cL_law 372 = .ok (.iconst 1, 1) := by decide +kernel
theorem dL_law_373 : decode cL_law 373 = .ok (.iadd, 1) := by decide +kernel
theorem dL_law_374 : decode cL_law 374 = .ok (.iaload, 1) := by decide +kernel
theorem dL_law_375 : decode cL_law 375 = .ok (.i2l, 1) := by decide +kernel
theorem dL_law_376 : decode cL_law 376 = .ok (.bipush 32, 2) := by decide +kernel
theorem dL_law_378 : decode cL_law 378 = .ok (.lshl, 1) := by decide +kernel
theorem dL_law_379 : decode cL_law 379 = .ok (.aload_n 0, 1) := by decide +kernel
theorem dL_law_380 : decode cL_law 380 = .ok (.iload_n 3, 1) := by decide +kernel
theorem dL_law_381 : decode cL_law 381 = .ok (.iconst 2, 1) := by decide +kernel
theorem dL_law_382 : decode cL_law 382 = .ok (.iadd, 1) := by decide +kernel
theorem dL_law_383 : decode cL_law 383 = .ok (.iaload, 1) := by decide +kernel
theorem dL_law_384 : decode cL_law 384 = .ok (.i2l, 1) := by decide +kernel
theorem dL_law_385 : decode cL_law 385 = .ok (.ldc2_w 36, 3) := by decide +kernel
theorem dL_law_388 : decode cL_law 388 = .ok (.land, 1) := by decide +kernel
theorem dL_law_389 : decode cL_law 389 = .ok (.lor, 1) := by decide +kernel
theorem dL_law_390 : decode cL_law 390 = .ok (.aload_n 0, 1) := by decide +kernel
theorem dL_law_391 : decode cL_law 391 = .ok (.iload_n 3, 1) := by decide +kernel
theorem dL_law_392 : decode cL_law 392 = .ok (.iconst 3, 1) := by decide +kernel
theorem dL_law_393 : decode cL_law 393 = .ok (.iadd, 1) := by decide +kernel
theorem dL_law_394 : decode cL_law 394 = .ok (.iaload, 1) := by decide +kernel
theorem dL_law_395 : decode cL_law 395 = .ok (.invokevirtual 38, 3) := by decide +kernel
theorem dL_law_398 : decode cL_law 398 = .ok (.aload_n 2, 1) := by decide +kernel
theorem dL_law_399 : decode cL_law 399 = .ok (.aload_n 0, 1) := by decide +kernel
theorem dL_law_400 : decode cL_law 400 = .ok (.iload_n 3, 1) := by decide +kernel
theorem dL_law_401 : decode cL_law 401 = .ok (.iconst 1, 1) := by decide +kernel
theorem dL_law_402 : decode cL_law 402 = .ok (.iadd, 1) := by decide +kernel
theorem dL_law_403 : decode cL_law 403 = .ok (.iaload, 1) := by decide +kernel
theorem dL_law_404 : decode cL_law 404 = .ok (.i2l, 1) := by decide +kernel
theorem dL_law_405 : decode cL_law 405 = .ok (.bipush 32, 2) := by decide +kernel
theorem dL_law_407 : decode cL_law 407 = .ok (.lshl, 1) := by decide +kernel
theorem dL_law_408 : decode cL_law 408 = .ok (.aload_n 0, 1) := by decide +kernel
theorem dL_law_409 : decode cL_law 409 = .ok (.iload_n 3, 1) := by decide +kernel
theorem dL_law_410 : decode cL_law 410 = .ok (.iconst 2, 1) := by decide +kernel
theorem dL_law_411 : decode cL_law 411 = .ok (.iadd, 1) := by decide +kernel
theorem dL_law_412 : decode cL_law 412 = .ok (.iaload, 1) := by decide +kernel
theorem dL_law_413 : decode cL_law 413 = .ok (.i2l, 1) := by decide +kernel
theorem dL_law_414 : decode cL_law 414 = .ok (.ldc2_w 36, 3) := by decide +kernel
theorem dL_law_417 : decode cL_law 417 = .ok (.land, 1) := by decide +kernel
theorem dL_law_418 : decode cL_law 418 = .ok (.lor, 1) := by decide +kernel
theorem dL_law_419 : decode cL_law 419 = .ok (.aload_n 0, 1) := by decide +kernel
theorem dL_law_420 : decode cL_law 420 = .ok (.iload_n 3, 1) := by decide +kernel
theorem dL_law_421 : decode cL_law 421 = .ok (.iconst 3, 1) := by decide +kernel
theorem dL_law_422 : decode cL_law 422 = .ok (.iadd, 1) := by decide +kernel
theorem dL_law_423 : decode cL_law 423 = .ok (.iaload, 1) := by decide +kernel
theorem dL_law_424 : decode cL_law 424 = .ok (.invokevirtual 42, 3) := by decide +kernel
theorem dL_law_427 : decode cL_law 427 = .ok (.if_icmp .eq 686, 3) := by decide +kernel
theorem dL_law_430 : decode cL_law 430 = .ok (.iconst 0, 1) := by decide +kernel
theorem dL_law_431 : decode cL_law 431 = .ok (.ireturn, 1) := by decide +kernel
theorem dL_law_432 : decode cL_law 432 = .ok (.aload_n 1, 1) := by decide +kernel
theorem dL_law_433 : decode cL_law 433 = .ok (.invokevirtual 43, 3) := by decide +kernel
theorem dL_law_436 : decode cL_law 436 = .ok (.aload_n 2, 1) := by decide +kernel
theorem dL_law_437 : decode cL_law 437 = .ok (.invokevirtual 47, 3) := by decide +kernel
theorem dL_law_440 : decode cL_law 440 = .ok (.if_icmp .eq 673, 3) := by decide +kernel
theorem dL_law_443 : decode cL_law 443 = .ok (.iconst 0, 1) := by decide +kernel
theorem dL_law_444 : decode cL_law 444 = .ok (.ireturn, 1) := by decide +kernel
theorem dL_law_445 : decode cL_law 445 = .ok (.aload_n 1, 1) := by decide +kernel
theorem dL_law_446 : decode cL_law 446 = .ok (.invokevirtual 48, 3) := by decide +kernel
theorem dL_law_449 : decode cL_law 449 = .ok (.aload_n 2, 1) := by decide +kernel
theorem dL_law_450 : decode cL_law 450 = .ok (.invokevirtual 51, 3) := by decide +kernel
theorem dL_law_453 : decode cL_law 453 = .ok (.if_icmp .eq 660, 3) := by decide +kernel
theorem dL_law_456 : decode cL_law 456 = .ok (.iconst 0, 1) := by decide +kernel
theorem dL_law_457 : decode cL_law 457 = .ok (.ireturn, 1) := by decide +kernel
theorem dL_law_458 : decode cL_law 458 = .ok (.aload_n 1, 1) := by decide +kernel
theorem dL_law_459 : decode cL_law 459 = .ok (.invokevirtual 52, 3) := by decide +kernel
theorem dL_law_462 : decode cL_law 462 = .ok (.aload_n 2, 1) := by decide +kernel
theorem dL_law_463 : decode cL_law 463 = .ok (.invokevirtual 55, 3) := by decide +kernel
theorem dL_law_466 : decode cL_law 466 = .ok (.if_icmp .eq 647, 3) := by decide +kernel
theorem dL_law_469 : decode cL_law 469 = .ok (.iconst 0, 1) := by decide +kernel
theorem dL_law_470 : decode cL_law 470 = .ok (.ireturn, 1) := by decide +kernel
theorem dL_law_471 : decode cL_law 471 = .ok (.aload_n 1, 1) := by decide +kernel
theorem dL_law_472 : decode cL_law 472 = .ok (.aload_n 0, 1) := by decide +kernel
theorem dL_law_473 : decode cL_law 473 = .ok (.iload_n 3, 1) := by decide +kernel
theorem dL_law_474 : decode cL_law 474 = .ok (.iconst 1, 1) := by decide +kernel
theorem dL_law_475 : decode cL_law 475 = .ok (.iadd, 1) := by decide +kernel
theorem dL_law_476 : decode cL_law 476 = .ok (.iaload, 1) := by decide +kernel
theorem dL_law_477 : decode cL_law 477 = .ok (.invokevirtual 56, 3) := by decide +kernel
theorem dL_law_480 : decode cL_law 480 = .ok (.aload_n 2, 1) := by decide +kernel
theorem dL_law_481 : decode cL_law 481 = .ok (.aload_n 0, 1) := by decide +kernel
theorem dL_law_482 : decode cL_law 482 = .ok (.iload_n 3, 1) := by decide +kernel
theorem dL_law_483 : decode cL_law 483 = .ok (.iconst 1, 1) := by decide +kernel
theorem dL_law_484 : decode cL_law 484 = .ok (.iadd, 1) := by decide +kernel
theorem dL_law_485 : decode cL_law 485 = .ok (.iaload, 1) := by decide +kernel
theorem dL_law_486 : decode cL_law 486 = .ok (.invokevirtual 60, 3) := by decide +kernel
theorem dL_law_489 : decode cL_law 489 = .ok (.if_icmp .eq 624, 3) := by decide +kernel
theorem dL_law_492 : decode cL_law 492 = .ok (.iconst 0, 1) := by decide +kernel
theorem dL_law_493 : decode cL_law 493 = .ok (.ireturn, 1) := by decide +kernel
theorem dL_law_494 : decode cL_law 494 = .ok (.aload_n 1, 1) := by decide +kernel
theorem dL_law_495 : decode cL_law 495 = .ok (.aload_n 0, 1) := by decide +kernel
theorem dL_law_496 : decode cL_law 496 = .ok (.iload_n 3, 1) := by decide +kernel
theorem dL_law_497 : decode cL_law 497 = .ok (.iconst 1, 1) := by decide +kernel
theorem dL_law_498 : decode cL_law 498 = .ok (.iadd, 1) := by decide +kernel
theorem dL_law_499 : decode cL_law 499 = .ok (.iaload, 1) := by decide +kernel
theorem dL_law_500 : decode cL_law 500 = .ok (.aload_n 0, 1) := by decide +kernel
theorem dL_law_501 : decode cL_law 501 = .ok (.iload_n 3, 1) := by decide +kernel
theorem dL_law_502 : decode cL_law 502 = .ok (.iconst 2, 1) := by decide +kernel
theorem dL_law_503 : decode cL_law 503 = .ok (.iadd, 1) := by decide +kernel
theorem dL_law_504 : decode cL_law 504 = .ok (.iaload, 1) := by decide +kernel
theorem dL_law_505 : decode cL_law 505 = .ok (.invokevirtual 61, 3) := by decide +kernel
theorem dL_law_508 : decode cL_law 508 = .ok (.aload_n 2, 1) := by decide +kernel
theorem dL_law_509 : decode cL_law 509 = .ok (.aload_n 0, 1) := by decide +kernel
theorem dL_law_510 : decode cL_law 510 = .ok (.iload_n 3, 1) := by decide +kernel
theorem dL_law_511 : decode cL_law 511 = .ok (.iconst 1, 1) := by decide +kernel
theorem dL_law_512 : decode cL_law 512 = .ok (.iadd, 1) := by decide +kernel
theorem dL_law_513 : decode cL_law 513 = .ok (.iaload, 1) := by decide +kernel
theorem dL_law_514 : decode cL_law 514 = .ok (.aload_n 0, 1) := by decide +kernel
theorem dL_law_515 : decode cL_law 515 = .ok (.iload_n 3, 1) := by decide +kernel
theorem dL_law_516 : decode cL_law 516 = .ok (.iconst 2, 1) := by decide +kernel
theorem dL_law_517 : decode cL_law 517 = .ok (.iadd, 1) := by decide +kernel
theorem dL_law_518 : decode cL_law 518 = .ok (.iaload, 1) := by decide +kernel
theorem dL_law_519 : decode cL_law 519 = .ok (.invokevirtual 64, 3) := by decide +kernel
theorem dL_law_522 : decode cL_law 522 = .ok (.if_icmp .eq 591, 3) := by decide +kernel
theorem dL_law_525 : decode cL_law 525 = .ok (.iconst 0, 1) := by decide +kernel
theorem dL_law_526 : decode cL_law 526 = .ok (.ireturn, 1) := by decide +kernel
theorem dL_law_527 : decode cL_law 527 = .ok (.aload_n 1, 1) := by decide +kernel
theorem dL_law_528 : decode cL_law 528 = .ok (.aload_n 0, 1) := by decide +kernel
theorem dL_law_529 : decode cL_law 529 = .ok (.iload_n 3, 1) := by decide +kernel
theorem dL_law_530 : decode cL_law 530 = .ok (.iconst 1, 1) := by decide +kernel
theorem dL_law_531 : decode cL_law 531 = .ok (.iadd, 1) := by decide +kernel
theorem dL_law_532 : decode cL_law 532 = .ok (.iaload, 1) := by decide +kernel
theorem dL_law_533 : decode cL_law 533 = .ok (.invokevirtual 65, 3) := by decide +kernel
theorem dL_law_536 : decode cL_law 536 = .ok (.aload_n 2, 1) := by decide +kernel
theorem dL_law_537 : decode cL_law 537 = .ok (.aload_n 0, 1) := by decide +kernel
theorem dL_law_538 : decode cL_law 538 = .ok (.iload_n 3, 1) := by decide +kernel
theorem dL_law_539 : decode cL_law 539 = .ok (.iconst 1, 1) := by decide +kernel
theorem dL_law_540 : decode cL_law 540 = .ok (.iadd, 1) := by decide +kernel
theorem dL_law_541 : decode cL_law 541 = .ok (.iaload, 1) := by decide +kernel
theorem dL_law_542 : decode cL_law 542 = .ok (.invokevirtual 68, 3) := by decide +kernel
theorem dL_law_545 : decode cL_law 545 = .ok (.if_icmp .eq 568, 3) := by decide +kernel
theorem dL_law_548 : decode cL_law 548 = .ok (.iconst 0, 1) := by decide +kernel
theorem dL_law_549 : decode cL_law 549 = .ok (.ireturn, 1) := by decide +kernel
theorem dL_law_550 : decode cL_law 550 = .ok (.aload_n 1, 1) := by decide +kernel
theorem dL_law_551 : decode cL_law 551 = .ok (.invokevirtual 69, 3) := by decide +kernel
theorem dL_law_554 : decode cL_law 554 = .ok (.aload_n 2, 1) := by decide +kernel
theorem dL_law_555 : decode cL_law 555 = .ok (.invokevirtual 72, 3) := by decide +kernel
theorem dL_law_558 : decode cL_law 558 = .ok (.if_icmp .eq 555, 3) := by decide +kernel
theorem dL_law_561 : decode cL_law 561 = .ok (.iconst 0, 1) := by decide +kernel
theorem dL_law_562 : decode cL_law 562 = .ok (.ireturn, 1) := by decide +kernel
theorem dL_law_563 : decode cL_law 563 = .ok (.aload_n 1, 1) := by decide +kernel
theorem dL_law_564 : decode cL_law 564 = .ok (.invokevirtual 73, 3) := by decide +kernel
theorem dL_law_567 : decode cL_law 567 = .ok (.aload_n 2, 1) := by decide +kernel
theorem dL_law_568 : decode cL_law 568 = .ok (.invokevirtual 76, 3) := by decide +kernel
theorem dL_law_571 : decode cL_law 571 = .ok (.if_icmp .eq 542, 3) := by decide +kernel
theorem dL_law_574 : decode cL_law 574 = .ok (.iconst 0, 1) := by decide +kernel
theorem dL_law_575 : decode cL_law 575 = .ok (.ireturn, 1) := by decide +kernel
theorem dL_law_576 : decode cL_law 576 = .ok (.aload_n 1, 1) := by decide +kernel
theorem dL_law_577 : decode cL_law 577 = .ok (.invokevirtual 77, 3) := by decide +kernel
theorem dL_law_580 : decode cL_law 580 = .ok (.aload_n 2, 1) := by decide +kernel
theorem dL_law_581 : decode cL_law 581 = .ok (.invokevirtual 80, 3) := by decide +kernel
theorem dL_law_584 : decode cL_law 584 = .ok (.if_icmp .eq 529, 3) := by decide +kernel
theorem dL_law_587 : decode cL_law 587 = .ok (.iconst 0, 1) := by decide +kernel
theorem dL_law_588 : decode cL_law 588 = .ok (.ireturn, 1) := by decide +kernel
theorem dL_law_589 : decode cL_law 589 = .ok (.aload_n 1, 1) := by decide +kernel
theorem dL_law_590 : decode cL_law 590 = .ok (.aload_n 0, 1) := by decide +kernel
theorem dL_law_591 : decode cL_law 591 = .ok (.iload_n 3, 1) := by decide +kernel
theorem dL_law_592 : decode cL_law 592 = .ok (.iconst 1, 1) := by decide +kernel
theorem dL_law_593 : decode cL_law 593 = .ok (.iadd, 1) := by decide +kernel
theorem dL_law_594 : decode cL_law 594 = .ok (.iaload, 1) := by decide +kernel
theorem dL_law_595 : decode cL_law 595 = .ok (.aload_n 0, 1) := by decide +kernel
theorem dL_law_596 : decode cL_law 596 = .ok (.iload_n 3, 1) := by decide +kernel
theorem dL_law_597 : decode cL_law 597 = .ok (.iconst 2, 1) := by decide +kernel
theorem dL_law_598 : decode cL_law 598 = .ok (.iadd, 1) := by decide +kernel
theorem dL_law_599 : decode cL_law 599 = .ok (.iaload, 1) := by decide +kernel
theorem dL_law_600 : decode cL_law 600 = .ok (.invokevirtual 81, 3) := by decide +kernel
theorem dL_law_603 : decode cL_law 603 = .ok (.aload_n 2, 1) := by decide +kernel
theorem dL_law_604 : decode cL_law 604 = .ok (.aload_n 0, 1) := by decide +kernel
theorem dL_law_605 : decode cL_law 605 = .ok (.iload_n 3, 1) := by decide +kernel
theorem dL_law_606 : decode cL_law 606 = .ok (.iconst 1, 1) := by decide +kernel
theorem dL_law_607 : decode cL_law 607 = .ok (.iadd, 1) := by decide +kernel
theorem dL_law_608 : decode cL_law 608 = .ok (.iaload, 1) := by decide +kernel
theorem dL_law_609 : decode cL_law 609 = .ok (.aload_n 0, 1) := by decide +kernel
theorem dL_law_610 : decode cL_law 610 = .ok (.iload_n 3, 1) := by decide +kernel
theorem dL_law_611 : decode cL_law 611 = .ok (.iconst 2, 1) := by decide +kernel
theorem dL_law_612 : decode cL_law 612 = .ok (.iadd, 1) := by decide +kernel
theorem dL_law_613 : decode cL_law 613 = .ok (.iaload, 1) := by decide +kernel
theorem dL_law_614 : decode cL_law 614 = .ok (.invokevirtual 84, 3) := by decide +kernel
theorem dL_law_617 : decode cL_law 617 = .ok (.if_icmp .eq 496, 3) := by decide +kernel
theorem dL_law_620 : decode cL_law 620 = .ok (.iconst 0, 1) := by decide +kernel
theorem dL_law_621 : decode cL_law 621 = .ok (.ireturn, 1) := by decide +kernel
theorem dL_law_622 : decode cL_law 622 = .ok (.aload_n 1, 1) := by decide +kernel
theorem dL_law_623 : decode cL_law 623 = .ok (.aload_n 0, 1) := by decide +kernel
theorem dL_law_624 : decode cL_law 624 = .ok (.iload_n 3, 1) := by decide +kernel
theorem dL_law_625 : decode cL_law 625 = .ok (.iconst 1, 1) := by decide +kernel
theorem dL_law_626 : decode cL_law 626 = .ok (.iadd, 1) := by decide +kernel
theorem dL_law_627 : decode cL_law 627 = .ok (.iaload, 1) := by decide +kernel
theorem dL_law_628 : decode cL_law 628 = .ok (.aload_n 0, 1) := by decide +kernel
theorem dL_law_629 : decode cL_law 629 = .ok (.iload_n 3, 1) := by decide +kernel
theorem dL_law_630 : decode cL_law 630 = .ok (.iconst 2, 1) := by decide +kernel
theorem dL_law_631 : decode cL_law 631 = .ok (.iadd, 1) := by decide +kernel
theorem dL_law_632 : decode cL_law 632 = .ok (.iaload, 1) := by decide +kernel
theorem dL_law_633 : decode cL_law 633 = .ok (.invokevirtual 85, 3) := by decide +kernel
theorem dL_law_636 : decode cL_law 636 = .ok (.aload_n 2, 1) := by decide +kernel
theorem dL_law_637 : decode cL_law 637 = .ok (.aload_n 0, 1) := by decide +kernel
theorem dL_law_638 : decode cL_law 638 = .ok (.iload_n 3, 1) := by decide +kernel
theorem dL_law_639 : decode cL_law 639 = .ok (.iconst 1, 1) := by decide +kernel
theorem dL_law_640 : decode cL_law 640 = .ok (.iadd, 1) := by decide +kernel
theorem dL_law_641 : decode cL_law 641 = .ok (.iaload, 1) := by decide +kernel
theorem dL_law_642 : decode cL_law 642 = .ok (.aload_n 0, 1) := by decide +kernel
theorem dL_law_643 : decode cL_law 643 = .ok (.iload_n 3, 1) := by decide +kernel
theorem dL_law_644 : decode cL_law 644 = .ok (.iconst 2, 1) := by decide +kernel
theorem dL_law_645 : decode cL_law 645 = .ok (.iadd, 1) := by decide +kernel
theorem dL_law_646 : decode cL_law 646 = .ok (.iaload, 1) := by decide +kernel
theorem dL_law_647 : decode cL_law 647 = .ok (.invokevirtual 88, 3) := by decide +kernel
theorem dL_law_650 : decode cL_law 650 = .ok (.if_icmp .eq 463, 3) := by decide +kernel
theorem dL_law_653 : decode cL_law 653 = .ok (.iconst 0, 1) := by decide +kernel
theorem dL_law_654 : decode cL_law 654 = .ok (.ireturn, 1) := by decide +kernel
theorem dL_law_655 : decode cL_law 655 = .ok (.aload_n 1, 1) := by decide +kernel
theorem dL_law_656 : decode cL_law 656 = .ok (.aload_n 0, 1) := by decide +kernel
theorem dL_law_657 : decode cL_law 657 = .ok (.iload_n 3, 1) := by decide +kernel
theorem dL_law_658 : decode cL_law 658 = .ok (.iconst 1, 1) := by decide +kernel
theorem dL_law_659 : decode cL_law 659 = .ok (.iadd, 1) := by decide +kernel
theorem dL_law_660 : decode cL_law 660 = .ok (.iaload, 1) := by decide +kernel
theorem dL_law_661 : decode cL_law 661 = .ok (.aload_n 0, 1) := by decide +kernel
theorem dL_law_662 : decode cL_law 662 = .ok (.iload_n 3, 1) := by decide +kernel
theorem dL_law_663 : decode cL_law 663 = .ok (.iconst 2, 1) := by decide +kernel
theorem dL_law_664 : decode cL_law 664 = .ok (.iadd, 1) := by decide +kernel
theorem dL_law_665 : decode cL_law 665 = .ok (.iaload, 1) := by decide +kernel
theorem dL_law_666 : decode cL_law 666 = .ok (.invokevirtual 89, 3) := by decide +kernel
theorem dL_law_669 : decode cL_law 669 = .ok (.aload_n 2, 1) := by decide +kernel
theorem dL_law_670 : decode cL_law 670 = .ok (.aload_n 0, 1) := by decide +kernel
theorem dL_law_671 : decode cL_law 671 = .ok (.iload_n 3, 1) := by decide +kernel
theorem dL_law_672 : decode cL_law 672 = .ok (.iconst 1, 1) := by decide +kernel
theorem dL_law_673 : decode cL_law 673 = .ok (.iadd, 1) := by decide +kernel
theorem dL_law_674 : decode cL_law 674 = .ok (.iaload, 1) := by decide +kernel
theorem dL_law_675 : decode cL_law 675 = .ok (.aload_n 0, 1) := by decide +kernel
theorem dL_law_676 : decode cL_law 676 = .ok (.iload_n 3, 1) := by decide +kernel
theorem dL_law_677 : decode cL_law 677 = .ok (.iconst 2, 1) := by decide +kernel
theorem dL_law_678 : decode cL_law 678 = .ok (.iadd, 1) := by decide +kernel
theorem dL_law_679 : decode cL_law 679 = .ok (.iaload, 1) := by decide +kernel
theorem dL_law_680 : decode cL_law 680 = .ok (.invokevirtual 92, 3) := by decide +kernel
theorem dL_law_683 : decode cL_law 683 = .ok (.if_icmp .eq 430, 3) := by decide +kernel
theorem dL_law_686 : decode cL_law 686 = .ok (.iconst 0, 1) := by decide +kernel
theorem dL_law_687 : decode cL_law 687 = .ok (.ireturn, 1) := by decide +kernel
theorem dL_law_688 : decode cL_law 688 = .ok (.aload_n 1, 1) := by decide +kernel
theorem dL_law_689 : decode cL_law 689 = .ok (.aload_n 0, 1) := by decide +kernel
theorem dL_law_690 : decode cL_law 690 = .ok (.iload_n 3, 1) := by decide +kernel
theorem dL_law_691 : decode cL_law 691 = .ok (.iconst 1, 1) := by decide +kernel
theorem dL_law_692 : decode cL_law 692 = .ok (.iadd, 1) := by decide +kernel
theorem dL_law_693 : decode cL_law 693 = .ok (.iaload, 1) := by decide +kernel
theorem dL_law_694 : decode cL_law 694 = .ok (.invokevirtual 93, 3) := by decide +kernel
theorem dL_law_697 : decode cL_law 697 = .ok (.aload_n 2, 1) := by decide +kernel
theorem dL_law_698 : decode cL_law 698 = .ok (.aload_n 0, 1) := by decide +kernel
theorem dL_law_699 : decode cL_law 699 = .ok (.iload_n 3, 1) := by decide +kernel
theorem dL_law_700 : decode cL_law 700 = .ok (.iconst 1, 1) := by decide +kernel
theorem dL_law_701 : decode cL_law 701 = .ok (.iadd, 1) := by decide +kernel
theorem dL_law_702 : decode cL_law 702 = .ok (.iaload, 1) := by decide +kernel
theorem dL_law_703 : decode cL_law 703 = .ok (.invokevirtual 97, 3) := by decide +kernel
theorem dL_law_706 : decode cL_law 706 = .ok (.lcmp, 1) := by decide +kernel
theorem dL_law_707 : decode cL_law 707 = .ok (.ifCond .eq 406, 3) := by decide +kernel
theorem dL_law_710 : decode cL_law 710 = .ok (.iconst 0, 1) := by decide +kernel
theorem dL_law_711 : decode cL_law 711 = .ok (.ireturn, 1) := by decide +kernel
theorem dL_law_712 : decode cL_law 712 = .ok (.aload_n 1, 1) := by decide +kernel
theorem dL_law_713 : decode cL_law 713 = .ok (.aload_n 0, 1) := by decide +kernel
theorem dL_law_714 : decode cL_law 714 = .ok (.iload_n 3, 1) := by decide +kernel
theorem dL_law_715 : decode cL_law 715 = .ok (.iconst 1, 1) := by decide +kernel
theorem dL_law_716 : decode cL_law 716 = .ok (.iadd, 1) := by decide +kernel
theorem dL_law_717 : decode cL_law 717 = .ok (.iaload, 1) := by decide +kernel
theorem dL_law_718 : decode cL_law 718 = .ok (.aload_n 0, 1) := by decide +kernel
theorem dL_law_719 : decode cL_law 719 = .ok (.iload_n 3, 1) := by decide +kernel
theorem dL_law_720 : decode cL_law 720 = .ok (.iconst 2, 1) := by decide +kernel
theorem dL_law_721 : decode cL_law 721 = .ok (.iadd, 1) := by decide +kernel
theorem dL_law_722 : decode cL_law 722 = .ok (.iaload, 1) := by decide +kernel
theorem dL_law_723 : decode cL_law 723 = .ok (.aload_n 0, 1) := by decide +kernel
theorem dL_law_724 : decode cL_law 724 = .ok (.iload_n 3, 1) := by decide +kernel
theorem dL_law_725 : decode cL_law 725 = .ok (.iconst 3, 1) := by decide +kernel
theorem dL_law_726 : decode cL_law 726 = .ok (.iadd, 1) := by decide +kernel
theorem dL_law_727 : decode cL_law 727 = .ok (.iaload, 1) := by decide +kernel
theorem dL_law_728 : decode cL_law 728 = .ok (.aload_n 0, 1) := by decide +kernel
theorem dL_law_729 : decode cL_law 729 = .ok (.iload_n 3, 1) := by decide +kernel
theorem dL_law_730 : decode cL_law 730 = .ok (.iconst 4, 1) := by decide +kernel
theorem dL_law_731 : decode cL_law 731 = .ok (.iadd, 1) := by decide +kernel
theorem dL_law_732 : decode cL_law 732 = .ok (.iaload, 1) := by decide +kernel
theorem dL_law_733 : decode cL_law 733 = .ok (.invokevirtual 98, 3) := by decide +kernel
theorem dL_law_736 : decode cL_law 736 = .ok (.aload_n 2, 1) := by decide +kernel
theorem dL_law_737 : decode cL_law 737 = .ok (.aload_n 0, 1) := by decide +kernel
theorem dL_law_738 : decode cL_law 738 = .ok (.iload_n 3, 1) := by decide +kernel
theorem dL_law_739 : decode cL_law 739 = .ok (.iconst 1, 1) := by decide +kernel
theorem dL_law_740 : decode cL_law 740 = .ok (.iadd, 1) := by decide +kernel
theorem dL_law_741 : decode cL_law 741 = .ok (.iaload, 1) := by decide +kernel
theorem dL_law_742 : decode cL_law 742 = .ok (.aload_n 0, 1) := by decide +kernel
theorem dL_law_743 : decode cL_law 743 = .ok (.iload_n 3, 1) := by decide +kernel
theorem dL_law_744 : decode cL_law 744 = .ok (.iconst 2, 1) := by decide +kernel
theorem dL_law_745 : decode cL_law 745 = .ok (.iadd, 1) := by decide +kernel
theorem dL_law_746 : decode cL_law 746 = .ok (.iaload, 1) := by decide +kernel
theorem dL_law_747 : decode cL_law 747 = .ok (.aload_n 0, 1) := by decide +kernel
theorem dL_law_748 : decode cL_law 748 = .ok (.iload_n 3, 1) := by decide +kernel
theorem dL_law_749 : decode cL_law 749 = .ok (.iconst 3, 1) := by decide +kernel
theorem dL_law_750 : decode cL_law 750 = .ok (.iadd, 1) := by decide +kernel
theorem dL_law_751 : decode cL_law 751 = .ok (.iaload, 1) := by decide +kernel
theorem dL_law_752 : decode cL_law 752 = .ok (.aload_n 0, 1) := by decide +kernel
theorem dL_law_753 : decode cL_law 753 = .ok (.iload_n 3, 1) := by decide +kernel
theorem dL_law_754 : decode cL_law 754 = .ok (.iconst 4, 1) := by decide +kernel
theorem dL_law_755 : decode cL_law 755 = .ok (.iadd, 1) := by decide +kernel
theorem dL_law_756 : decode cL_law 756 = .ok (.iaload, 1) := by decide +kernel
theorem dL_law_757 : decode cL_law 757 = .ok (.invokevirtual 101, 3) := by decide +kernel
theorem dL_law_760 : decode cL_law 760 = .ok (.if_icmp .eq 353, 3) := by decide +kernel
theorem dL_law_763 : decode cL_law 763 = .ok (.iconst 0, 1) := by decide +kernel
theorem dL_law_764 : decode cL_law 764 = .ok (.ireturn, 1) := by decide +kernel
theorem dL_law_765 : decode cL_law 765 = .ok (.aload_n 1, 1) := by decide +kernel
theorem dL_law_766 : decode cL_law 766 = .ok (.invokevirtual 102, 3) := by decide +kernel
theorem dL_law_769 : decode cL_law 769 = .ok (.aload_n 2, 1) := by decide +kernel
theorem dL_law_770 : decode cL_law 770 = .ok (.invokevirtual 105, 3) := by decide +kernel
theorem dL_law_773 : decode cL_law 773 = .ok (.if_icmp .eq 340, 3) := by decide +kernel
theorem dL_law_776 : decode cL_law 776 = .ok (.iconst 0, 1) := by decide +kernel
theorem dL_law_777 : decode cL_law 777 = .ok (.ireturn, 1) := by decide +kernel
theorem dL_law_778 : decode cL_law 778 = .ok (.aload_n 1, 1) := by decide +kernel
theorem dL_law_779 : decode cL_law 779 = .ok (.invokevirtual 106, 3) := by decide +kernel
theorem dL_law_782 : decode cL_law 782 = .ok (.aload_n 2, 1) := by decide +kernel
theorem dL_law_783 : decode cL_law 783 = .ok (.invokevirtual 109, 3) := by decide +kernel
theorem dL_law_786 : decode cL_law 786 = .ok (.if_icmp .eq 327, 3) := by decide +kernel
theorem dL_law_789 : decode cL_law 789 = .ok (.iconst 0, 1) := by decide +kernel
theorem dL_law_790 : decode cL_law 790 = .ok (.ireturn, 1) := by decide +kernel
theorem dL_law_791 : decode cL_law 791 = .ok (.aload_n 1, 1) := by decide +kernel
theorem dL_law_792 : decode cL_law 792 = .ok (.aload_n 0, 1) := by decide +kernel
theorem dL_law_793 : decode cL_law 793 = .ok (.iload_n 3, 1) := by decide +kernel
theorem dL_law_794 : decode cL_law 794 = .ok (.iconst 1, 1) := by decide +kernel
theorem dL_law_795 : decode cL_law 795 = .ok (.iadd, 1) := by decide +kernel
theorem dL_law_796 : decode cL_law 796 = .ok (.iaload, 1) := by decide +kernel
theorem dL_law_797 : decode cL_law 797 = .ok (.aload_n 0, 1) := by decide +kernel
theorem dL_law_798 : decode cL_law 798 = .ok (.iload_n 3, 1) := by decide +kernel
theorem dL_law_799 : decode cL_law 799 = .ok (.iconst 2, 1) := by decide +kernel
theorem dL_law_800 : decode cL_law 800 = .ok (.iadd, 1) := by decide +kernel
theorem dL_law_801 : decode cL_law 801 = .ok (.iaload, 1) := by decide +kernel
theorem dL_law_802 : decode cL_law 802 = .ok (.aload_n 0, 1) := by decide +kernel
theorem dL_law_803 : decode cL_law 803 = .ok (.iload_n 3, 1) := by decide +kernel
theorem dL_law_804 : decode cL_law 804 = .ok (.iconst 3, 1) := by decide +kernel
theorem dL_law_805 : decode cL_law 805 = .ok (.iadd, 1) := by decide +kernel
theorem dL_law_806 : decode cL_law 806 = .ok (.iaload, 1) := by decide +kernel
theorem dL_law_807 : decode cL_law 807 = .ok (.aload_n 0, 1) := by decide +kernel
theorem dL_law_808 : decode cL_law 808 = .ok (.iload_n 3, 1) := by decide +kernel
theorem dL_law_809 : decode cL_law 809 = .ok (.iconst 4, 1) := by decide +kernel
theorem dL_law_810 : decode cL_law 810 = .ok (.iadd, 1) := by decide +kernel
theorem dL_law_811 : decode cL_law 811 = .ok (.iaload, 1) := by decide +kernel
theorem dL_law_812 : decode cL_law 812 = .ok (.invokevirtual 110, 3) := by decide +kernel
theorem dL_law_815 : decode cL_law 815 = .ok (.aload_n 2, 1) := by decide +kernel
theorem dL_law_816 : decode cL_law 816 = .ok (.aload_n 0, 1) := by decide +kernel
theorem dL_law_817 : decode cL_law 817 = .ok (.iload_n 3, 1) := by decide +kernel
theorem dL_law_818 : decode cL_law 818 = .ok (.iconst 1, 1) := by decide +kernel
theorem dL_law_819 : decode cL_law 819 = .ok (.iadd, 1) := by decide +kernel
theorem dL_law_820 : decode cL_law 820 = .ok (.iaload, 1) := by decide +kernel
theorem dL_law_821 : decode cL_law 821 = .ok (.aload_n 0, 1) := by decide +kernel
theorem dL_law_822 : decode cL_law 822 = .ok (.iload_n 3, 1) := by decide +kernel
theorem dL_law_823 : decode cL_law 823 = .ok (.iconst 2, 1) := by decide +kernel
theorem dL_law_824 : decode cL_law 824 = .ok (.iadd, 1) := by decide +kernel
theorem dL_law_825 : decode cL_law 825 = .ok (.iaload, 1) := by decide +kernel
theorem dL_law_826 : decode cL_law 826 = .ok (.aload_n 0, 1) := by decide +kernel
theorem dL_law_827 : decode cL_law 827 = .ok (.iload_n 3, 1) := by decide +kernel
theorem dL_law_828 : decode cL_law 828 = .ok (.iconst 3, 1) := by decide +kernel
theorem dL_law_829 : decode cL_law 829 = .ok (.iadd, 1) := by decide +kernel
theorem dL_law_830 : decode cL_law 830 = .ok (.iaload, 1) := by decide +kernel
theorem dL_law_831 : decode cL_law 831 = .ok (.aload_n 0, 1) := by decide +kernel
theorem dL_law_832 : decode cL_law 832 = .ok (.iload_n 3, 1) := by decide +kernel
theorem dL_law_833 : decode cL_law 833 = .ok (.iconst 4, 1) := by decide +kernel
theorem dL_law_834 : decode cL_law 834 = .ok (.iadd, 1) := by decide +kernel
theorem dL_law_835 : decode cL_law 835 = .ok (.iaload, 1) := by decide +kernel
theorem dL_law_836 : decode cL_law 836 = .ok (.invokevirtual 114, 3) := by decide +kernel
theorem dL_law_839 : decode cL_law 839 = .ok (.lcmp, 1) := by decide +kernel
theorem dL_law_840 : decode cL_law 840 = .ok (.ifCond .eq 273, 3) := by decide +kernel
theorem dL_law_843 : decode cL_law 843 = .ok (.iconst 0, 1) := by decide +kernel
theorem dL_law_844 : decode cL_law 844 = .ok (.ireturn, 1) := by decide +kernel
theorem dL_law_845 : decode cL_law 845 = .ok (.aload_n 1, 1) := by decide +kernel
theorem dL_law_846 : decode cL_law 846 = .ok (.aload_n 0, 1) := by decide +kernel
theorem dL_law_847 : decode cL_law 847 = .ok (.iload_n 3, 1) := by decide +kernel
theorem dL_law_848 : decode cL_law 848 = .ok (.iconst 1, 1) := by decide +kernel
theorem dL_law_849 : decode cL_law 849 = .ok (.iadd, 1) := by decide +kernel
theorem dL_law_850 : decode cL_law 850 = .ok (.iaload, 1) := by decide +kernel
theorem dL_law_851 : decode cL_law 851 = .ok (.aload_n 0, 1) := by decide +kernel
theorem dL_law_852 : decode cL_law 852 = .ok (.iload_n 3, 1) := by decide +kernel
theorem dL_law_853 : decode cL_law 853 = .ok (.iconst 2, 1) := by decide +kernel
theorem dL_law_854 : decode cL_law 854 = .ok (.iadd, 1) := by decide +kernel
theorem dL_law_855 : decode cL_law 855 = .ok (.iaload, 1) := by decide +kernel
theorem dL_law_856 : decode cL_law 856 = .ok (.aload_n 0, 1) := by decide +kernel
theorem dL_law_857 : decode cL_law 857 = .ok (.iload_n 3, 1) := by decide +kernel
theorem dL_law_858 : decode cL_law 858 = .ok (.iconst 3, 1) := by decide +kernel
theorem dL_law_859 : decode cL_law 859 = .ok (.iadd, 1) := by decide +kernel
theorem dL_law_860 : decode cL_law 860 = .ok (.iaload, 1) := by decide +kernel
theorem dL_law_861 : decode cL_law 861 = .ok (.invokevirtual 115, 3) := by decide +kernel
theorem dL_law_864 : decode cL_law 864 = .ok (.aload_n 2, 1) := by decide +kernel
theorem dL_law_865 : decode cL_law 865 = .ok (.aload_n 0, 1) := by decide +kernel
theorem dL_law_866 : decode cL_law 866 = .ok (.iload_n 3, 1) := by decide +kernel
theorem dL_law_867 : decode cL_law 867 = .ok (.iconst 1, 1) := by decide +kernel
theorem dL_law_868 : decode cL_law 868 = .ok (.iadd, 1) := by decide +kernel
theorem dL_law_869 : decode cL_law 869 = .ok (.iaload, 1) := by decide +kernel
theorem dL_law_870 : decode cL_law 870 = .ok (.aload_n 0, 1) := by decide +kernel
theorem dL_law_871 : decode cL_law 871 = .ok (.iload_n 3, 1) := by decide +kernel
theorem dL_law_872 : decode cL_law 872 = .ok (.iconst 2, 1) := by decide +kernel
theorem dL_law_873 : decode cL_law 873 = .ok (.iadd, 1) := by decide +kernel
theorem dL_law_874 : decode cL_law 874 = .ok (.iaload, 1) := by decide +kernel
theorem dL_law_875 : decode cL_law 875 = .ok (.aload_n 0, 1) := by decide +kernel
theorem dL_law_876 : decode cL_law 876 = .ok (.iload_n 3, 1) := by decide +kernel
theorem dL_law_877 : decode cL_law 877 = .ok (.iconst 3, 1) := by decide +kernel
theorem dL_law_878 : decode cL_law 878 = .ok (.iadd, 1) := by decide +kernel
theorem dL_law_879 : decode cL_law 879 = .ok (.iaload, 1) := by decide +kernel
theorem dL_law_880 : decode cL_law 880 = .ok (.invokevirtual 118, 3) := by decide +kernel
theorem dL_law_883 : decode cL_law 883 = .ok (.if_icmp .eq 230, 3) := by decide +kernel
theorem dL_law_886 : decode cL_law 886 = .ok (.iconst 0, 1) := by decide +kernel
theorem dL_law_887 : decode cL_law 887 = .ok (.ireturn, 1) := by decide +kernel
theorem dL_law_888 : decode cL_law 888 = .ok (.aload_n 1, 1) := by decide +kernel
theorem dL_law_889 : decode cL_law 889 = .ok (.aload_n 0, 1) := by decide +kernel
theorem dL_law_890 : decode cL_law 890 = .ok (.iload_n 3, 1) := by decide +kernel
theorem dL_law_891 : decode cL_law 891 = .ok (.iconst 1, 1) := by decide +kernel
theorem dL_law_892 : decode cL_law 892 = .ok (.iadd, 1) := by decide +kernel
theorem dL_law_893 : decode cL_law 893 = .ok (.iaload, 1) := by decide +kernel
theorem dL_law_894 : decode cL_law 894 = .ok (.aload_n 0, 1) := by decide +kernel
theorem dL_law_895 : decode cL_law 895 = .ok (.iload_n 3, 1) := by decide +kernel
theorem dL_law_896 : decode cL_law 896 = .ok (.iconst 2, 1) := by decide +kernel
theorem dL_law_897 : decode cL_law 897 = .ok (.iadd, 1) := by decide +kernel
theorem dL_law_898 : decode cL_law 898 = .ok (.iaload, 1) := by decide +kernel
theorem dL_law_899 : decode cL_law 899 = .ok (.aload_n 0, 1) := by decide +kernel
theorem dL_law_900 : decode cL_law 900 = .ok (.iload_n 3, 1) := by decide +kernel
theorem dL_law_901 : decode cL_law 901 = .ok (.iconst 3, 1) := by decide +kernel
theorem dL_law_902 : decode cL_law 902 = .ok (.iadd, 1) := by decide +kernel
theorem dL_law_903 : decode cL_law 903 = .ok (.iaload, 1) := by decide +kernel
theorem dL_law_904 : decode cL_law 904 = .ok (.invokevirtual 119, 3) := by decide +kernel
theorem dL_law_907 : decode cL_law 907 = .ok (.aload_n 2, 1) := by decide +kernel
theorem dL_law_908 : decode cL_law 908 = .ok (.aload_n 0, 1) := by decide +kernel
theorem dL_law_909 : decode cL_law 909 = .ok (.iload_n 3, 1) := by decide +kernel
theorem dL_law_910 : decode cL_law 910 = .ok (.iconst 1, 1) := by decide +kernel
theorem dL_law_911 : decode cL_law 911 = .ok (.iadd, 1) := by decide +kernel
theorem dL_law_912 : decode cL_law 912 = .ok (.iaload, 1) := by decide +kernel
theorem dL_law_913 : decode cL_law 913 = .ok (.aload_n 0, 1) := by decide +kernel
theorem dL_law_914 : decode cL_law 914 = .ok (.iload_n 3, 1) := by decide +kernel
theorem dL_law_915 : decode cL_law 915 = .ok (.iconst 2, 1) := by decide +kernel
theorem dL_law_916 : decode cL_law 916 = .ok (.iadd, 1) := by decide +kernel
theorem dL_law_917 : decode cL_law 917 = .ok (.iaload, 1) := by decide +kernel
theorem dL_law_918 : decode cL_law 918 = .ok (.aload_n 0, 1) := by decide +kernel
theorem dL_law_919 : decode cL_law 919 = .ok (.iload_n 3, 1) := by decide +kernel
theorem dL_law_920 : decode cL_law 920 = .ok (.iconst 3, 1) := by decide +kernel
theorem dL_law_921 : decode cL_law 921 = .ok (.iadd, 1) := by decide +kernel
theorem dL_law_922 : decode cL_law 922 = .ok (.iaload, 1) := by decide +kernel
theorem dL_law_923 : decode cL_law 923 = .ok (.invokevirtual 122, 3) := by decide +kernel
theorem dL_law_926 : decode cL_law 926 = .ok (.if_icmp .eq 187, 3) := by decide +kernel
theorem dL_law_929 : decode cL_law 929 = .ok (.iconst 0, 1) := by decide +kernel
theorem dL_law_930 : decode cL_law 930 = .ok (.ireturn, 1) := by decide +kernel
theorem dL_law_931 : decode cL_law 931 = .ok (.aload_n 1, 1) := by decide +kernel
theorem dL_law_932 : decode cL_law 932 = .ok (.aload_n 0, 1) := by decide +kernel
theorem dL_law_933 : decode cL_law 933 = .ok (.iload_n 3, 1) := by decide +kernel
theorem dL_law_934 : decode cL_law 934 = .ok (.iconst 1, 1) := by decide +kernel
theorem dL_law_935 : decode cL_law 935 = .ok (.iadd, 1) := by decide +kernel
theorem dL_law_936 : decode cL_law 936 = .ok (.iaload, 1) := by decide +kernel
theorem dL_law_937 : decode cL_law 937 = .ok (.invokevirtual 123, 3) := by decide +kernel
theorem dL_law_940 : decode cL_law 940 = .ok (.aload_n 2, 1) := by decide +kernel
theorem dL_law_941 : decode cL_law 941 = .ok (.aload_n 0, 1) := by decide +kernel
theorem dL_law_942 : decode cL_law 942 = .ok (.iload_n 3, 1) := by decide +kernel
theorem dL_law_943 : decode cL_law 943 = .ok (.iconst 1, 1) := by decide +kernel
theorem dL_law_944 : decode cL_law 944 = .ok (.iadd, 1) := by decide +kernel
theorem dL_law_945 : decode cL_law 945 = .ok (.iaload, 1) := by decide +kernel
theorem dL_law_946 : decode cL_law 946 = .ok (.invokevirtual 126, 3) := by decide +kernel
theorem dL_law_949 : decode cL_law 949 = .ok (.if_icmp .eq 164, 3) := by decide +kernel
theorem dL_law_952 : decode cL_law 952 = .ok (.iconst 0, 1) := by decide +kernel
theorem dL_law_953 : decode cL_law 953 = .ok (.ireturn, 1) := by decide +kernel
theorem dL_law_954 : decode cL_law 954 = .ok (.aload_n 1, 1) := by decide +kernel
theorem dL_law_955 : decode cL_law 955 = .ok (.aload_n 0, 1) := by decide +kernel
theorem dL_law_956 : decode cL_law 956 = .ok (.iload_n 3, 1) := by decide +kernel
theorem dL_law_957 : decode cL_law 957 = .ok (.iconst 1, 1) := by decide +kernel
theorem dL_law_958 : decode cL_law 958 = .ok (.iadd, 1) := by decide +kernel
theorem dL_law_959 : decode cL_law 959 = .ok (.iaload, 1) := by decide +kernel
theorem dL_law_960 : decode cL_law 960 = .ok (.aload_n 0, 1) := by decide +kernel
theorem dL_law_961 : decode cL_law 961 = .ok (.iload_n 3, 1) := by decide +kernel
theorem dL_law_962 : decode cL_law 962 = .ok (.iconst 2, 1) := by decide +kernel
theorem dL_law_963 : decode cL_law 963 = .ok (.iadd, 1) := by decide +kernel
theorem dL_law_964 : decode cL_law 964 = .ok (.iaload, 1) := by decide +kernel
theorem dL_law_965 : decode cL_law 965 = .ok (.aload_n 0, 1) := by decide +kernel
theorem dL_law_966 : decode cL_law 966 = .ok (.iload_n 3, 1) := by decide +kernel
theorem dL_law_967 : decode cL_law 967 = .ok (.iconst 3, 1) := by decide +kernel
theorem dL_law_968 : decode cL_law 968 = .ok (.iadd, 1) := by decide +kernel
theorem dL_law_969 : decode cL_law 969 = .ok (.iaload, 1) := by decide +kernel
theorem dL_law_970 : decode cL_law 970 = .ok (.aload_n 0, 1) := by decide +kernel
theorem dL_law_971 : decode cL_law 971 = .ok (.iload_n 3, 1) := by decide +kernel
theorem dL_law_972 : decode cL_law 972 = .ok (.iconst 4, 1) := by decide +kernel
theorem dL_law_973 : decode cL_law 973 = .ok (.iadd, 1) := by decide +kernel
theorem dL_law_974 : decode cL_law 974 = .ok (.iaload, 1) := by decide +kernel
theorem dL_law_975 : decode cL_law 975 = .ok (.invokevirtual 127, 3) := by decide +kernel
theorem dL_law_978 : decode cL_law 978 = .ok (.aload_n 2, 1) := by decide +kernel
theorem dL_law_979 : decode cL_law 979 = .ok (.aload_n 0, 1) := by decide +kernel
theorem dL_law_980 : decode cL_law 980 = .ok (.iload_n 3, 1) := by decide +kernel
theorem dL_law_981 : decode cL_law 981 = .ok (.iconst 1, 1) := by decide +kernel
theorem dL_law_982 : decode cL_law 982 = .ok (.iadd, 1) := by decide +kernel
theorem dL_law_983 : decode cL_law 983 = .ok (.iaload, 1) := by decide +kernel
theorem dL_law_984 : decode cL_law 984 = .ok (.aload_n 0, 1) := by decide +kernel
theorem dL_law_985 : decode cL_law 985 = .ok (.iload_n 3, 1) := by decide +kernel
theorem dL_law_986 : decode cL_law 986 = .ok (.iconst 2, 1) := by decide +kernel
theorem dL_law_987 : decode cL_law 987 = .ok (.iadd, 1) := by decide +kernel
theorem dL_law_988 : decode cL_law 988 = .ok (.iaload, 1) := by decide +kernel
theorem dL_law_989 : decode cL_law 989 = .ok (.aload_n 0, 1) := by decide +kernel
theorem dL_law_990 : decode cL_law 990 = .ok (.iload_n 3, 1) := by decide +kernel
theorem dL_law_991 : decode cL_law 991 = .ok (.iconst 3, 1) := by decide +kernel
theorem dL_law_992 : decode cL_law 992 = .ok (.iadd, 1) := by decide +kernel
theorem dL_law_993 : decode cL_law 993 = .ok (.iaload, 1) := by decide +kernel
theorem dL_law_994 : decode cL_law 994 = .ok (.aload_n 0, 1) := by decide +kernel
theorem dL_law_995 : decode cL_law 995 = .ok (.iload_n 3, 1) := by decide +kernel
theorem dL_law_996 : decode cL_law 996 = .ok (.iconst 4, 1) := by decide +kernel
theorem dL_law_997 : decode cL_law 997 = .ok (.iadd, 1) := by decide +kernel
theorem dL_law_998 : decode cL_law 998 = .ok (.iaload, 1) := by decide +kernel
theorem dL_law_999 : decode cL_law 999 = .ok (.invokevirtual 130, 3) := by decide +kernel
theorem dL_law_1002 : decode cL_law 1002 = .ok (.if_icmp .eq 111, 3) := by decide +kernel
theorem dL_law_1005 : decode cL_law 1005 = .ok (.iconst 0, 1) := by decide +kernel
theorem dL_law_1006 : decode cL_law 1006 = .ok (.ireturn, 1) := by decide +kernel
theorem dL_law_1007 : decode cL_law 1007 = .ok (.aload_n 1, 1) := by decide +kernel
theorem dL_law_1008 : decode cL_law 1008 = .ok (.aload_n 0, 1) := by decide +kernel
theorem dL_law_1009 : decode cL_law 1009 = .ok (.iload_n 3, 1) := by decide +kernel
theorem dL_law_1010 : decode cL_law 1010 = .ok (.iconst 1, 1) := by decide +kernel
theorem dL_law_1011 : decode cL_law 1011 = .ok (.iadd, 1) := by decide +kernel
theorem dL_law_1012 : decode cL_law 1012 = .ok (.iaload, 1) := by decide +kernel
theorem dL_law_1013 : decode cL_law 1013 = .ok (.aload_n 0, 1) := by decide +kernel
theorem dL_law_1014 : decode cL_law 1014 = .ok (.iload_n 3, 1) := by decide +kernel
theorem dL_law_1015 : decode cL_law 1015 = .ok (.iconst 2, 1) := by decide +kernel
theorem dL_law_1016 : decode cL_law 1016 = .ok (.iadd, 1) := by decide +kernel
theorem dL_law_1017 : decode cL_law 1017 = .ok (.iaload, 1) := by decide +kernel
theorem dL_law_1018 : decode cL_law 1018 = .ok (.aload_n 0, 1) := by decide +kernel
theorem dL_law_1019 : decode cL_law 1019 = .ok (.iload_n 3, 1) := by decide +kernel
theorem dL_law_1020 : decode cL_law 1020 = .ok (.iconst 3, 1) := by decide +kernel
theorem dL_law_1021 : decode cL_law 1021 = .ok (.iadd, 1) := by decide +kernel
theorem dL_law_1022 : decode cL_law 1022 = .ok (.iaload, 1) := by decide +kernel
theorem dL_law_1023 : decode cL_law 1023 = .ok (.invokevirtual 131, 3) := by decide +kernel
theorem dL_law_1026 : decode cL_law 1026 = .ok (.aload_n 2, 1) := by decide +kernel
theorem dL_law_1027 : decode cL_law 1027 = .ok (.aload_n 0, 1) := by decide +kernel
theorem dL_law_1028 : decode cL_law 1028 = .ok (.iload_n 3, 1) := by decide +kernel
theorem dL_law_1029 : decode cL_law 1029 = .ok (.iconst 1, 1) := by decide +kernel
theorem dL_law_1030 : decode cL_law 1030 = .ok (.iadd, 1) := by decide +kernel
theorem dL_law_1031 : decode cL_law 1031 = .ok (.iaload, 1) := by decide +kernel
theorem dL_law_1032 : decode cL_law 1032 = .ok (.aload_n 0, 1) := by decide +kernel
theorem dL_law_1033 : decode cL_law 1033 = .ok (.iload_n 3, 1) := by decide +kernel
theorem dL_law_1034 : decode cL_law 1034 = .ok (.iconst 2, 1) := by decide +kernel
theorem dL_law_1035 : decode cL_law 1035 = .ok (.iadd, 1) := by decide +kernel
theorem dL_law_1036 : decode cL_law 1036 = .ok (.iaload, 1) := by decide +kernel
theorem dL_law_1037 : decode cL_law 1037 = .ok (.aload_n 0, 1) := by decide +kernel
theorem dL_law_1038 : decode cL_law 1038 = .ok (.iload_n 3, 1) := by decide +kernel
theorem dL_law_1039 : decode cL_law 1039 = .ok (.iconst 3, 1) := by decide +kernel
theorem dL_law_1040 : decode cL_law 1040 = .ok (.iadd, 1) := by decide +kernel
theorem dL_law_1041 : decode cL_law 1041 = .ok (.iaload, 1) := by decide +kernel
theorem dL_law_1042 : decode cL_law 1042 = .ok (.invokevirtual 134, 3) := by decide +kernel
theorem dL_law_1045 : decode cL_law 1045 = .ok (.if_icmp .eq 68, 3) := by decide +kernel
theorem dL_law_1048 : decode cL_law 1048 = .ok (.iconst 0, 1) := by decide +kernel
theorem dL_law_1049 : decode cL_law 1049 = .ok (.ireturn, 1) := by decide +kernel
theorem dL_law_1050 : decode cL_law 1050 = .ok (.aload_n 1, 1) := by decide +kernel
theorem dL_law_1051 : decode cL_law 1051 = .ok (.aload_n 0, 1) := by decide +kernel
theorem dL_law_1052 : decode cL_law 1052 = .ok (.iload_n 3, 1) := by decide +kernel
theorem dL_law_1053 : decode cL_law 1053 = .ok (.iconst 1, 1) := by decide +kernel
theorem dL_law_1054 : decode cL_law 1054 = .ok (.iadd, 1) := by decide +kernel
theorem dL_law_1055 : decode cL_law 1055 = .ok (.iaload, 1) := by decide +kernel
theorem dL_law_1056 : decode cL_law 1056 = .ok (.aload_n 0, 1) := by decide +kernel
theorem dL_law_1057 : decode cL_law 1057 = .ok (.iload_n 3, 1) := by decide +kernel
theorem dL_law_1058 : decode cL_law 1058 = .ok (.iconst 2, 1) := by decide +kernel
theorem dL_law_1059 : decode cL_law 1059 = .ok (.iadd, 1) := by decide +kernel
theorem dL_law_1060 : decode cL_law 1060 = .ok (.iaload, 1) := by decide +kernel
theorem dL_law_1061 : decode cL_law 1061 = .ok (.aload_n 0, 1) := by decide +kernel
theorem dL_law_1062 : decode cL_law 1062 = .ok (.iload_n 3, 1) := by decide +kernel
theorem dL_law_1063 : decode cL_law 1063 = .ok (.iconst 3, 1) := by decide +kernel
theorem dL_law_1064 : decode cL_law 1064 = .ok (.iadd, 1) := by decide +kernel
theorem dL_law_1065 : decode cL_law 1065 = .ok (.iaload, 1) := by decide +kernel
theorem dL_law_1066 : decode cL_law 1066 = .ok (.aload_n 0, 1) := by decide +kernel
theorem dL_law_1067 : decode cL_law 1067 = .ok (.iload_n 3, 1) := by decide +kernel
theorem dL_law_1068 : decode cL_law 1068 = .ok (.iconst 4, 1) := by decide +kernel
theorem dL_law_1069 : decode cL_law 1069 = .ok (.iadd, 1) := by decide +kernel
theorem dL_law_1070 : decode cL_law 1070 = .ok (.iaload, 1) := by decide +kernel
theorem dL_law_1071 : decode cL_law 1071 = .ok (.aload_n 0, 1) := by decide +kernel
theorem dL_law_1072 : decode cL_law 1072 = .ok (.iload_n 3, 1) := by decide +kernel
theorem dL_law_1073 : decode cL_law 1073 = .ok (.iconst 5, 1) := by decide +kernel
theorem dL_law_1074 : decode cL_law 1074 = .ok (.iadd, 1) := by decide +kernel
theorem dL_law_1075 : decode cL_law 1075 = .ok (.iaload, 1) := by decide +kernel
theorem dL_law_1076 : decode cL_law 1076 = .ok (.invokevirtual 135, 3) := by decide +kernel
theorem dL_law_1079 : decode cL_law 1079 = .ok (.aload_n 2, 1) := by decide +kernel
theorem dL_law_1080 : decode cL_law 1080 = .ok (.aload_n 0, 1) := by decide +kernel
theorem dL_law_1081 : decode cL_law 1081 = .ok (.iload_n 3, 1) := by decide +kernel
theorem dL_law_1082 : decode cL_law 1082 = .ok (.iconst 1, 1) := by decide +kernel
theorem dL_law_1083 : decode cL_law 1083 = .ok (.iadd, 1) := by decide +kernel
theorem dL_law_1084 : decode cL_law 1084 = .ok (.iaload, 1) := by decide +kernel
theorem dL_law_1085 : decode cL_law 1085 = .ok (.aload_n 0, 1) := by decide +kernel
theorem dL_law_1086 : decode cL_law 1086 = .ok (.iload_n 3, 1) := by decide +kernel
theorem dL_law_1087 : decode cL_law 1087 = .ok (.iconst 2, 1) := by decide +kernel
theorem dL_law_1088 : decode cL_law 1088 = .ok (.iadd, 1) := by decide +kernel
theorem dL_law_1089 : decode cL_law 1089 = .ok (.iaload, 1) := by decide +kernel
theorem dL_law_1090 : decode cL_law 1090 = .ok (.aload_n 0, 1) := by decide +kernel
theorem dL_law_1091 : decode cL_law 1091 = .ok (.iload_n 3, 1) := by decide +kernel
theorem dL_law_1092 : decode cL_law 1092 = .ok (.iconst 3, 1) := by decide +kernel
theorem dL_law_1093 : decode cL_law 1093 = .ok (.iadd, 1) := by decide +kernel
theorem dL_law_1094 : decode cL_law 1094 = .ok (.iaload, 1) := by decide +kernel
theorem dL_law_1095 : decode cL_law 1095 = .ok (.aload_n 0, 1) := by decide +kernel
theorem dL_law_1096 : decode cL_law 1096 = .ok (.iload_n 3, 1) := by decide +kernel
theorem dL_law_1097 : decode cL_law 1097 = .ok (.iconst 4, 1) := by decide +kernel
theorem dL_law_1098 : decode cL_law 1098 = .ok (.iadd, 1) := by decide +kernel
theorem dL_law_1099 : decode cL_law 1099 = .ok (.iaload, 1) := by decide +kernel
theorem dL_law_1100 : decode cL_law 1100 = .ok (.aload_n 0, 1) := by decide +kernel
theorem dL_law_1101 : decode cL_law 1101 = .ok (.iload_n 3, 1) := by decide +kernel
theorem dL_law_1102 : decode cL_law 1102 = .ok (.iconst 5, 1) := by decide +kernel
theorem dL_law_1103 : decode cL_law 1103 = .ok (.iadd, 1) := by decide +kernel
theorem dL_law_1104 : decode cL_law 1104 = .ok (.iaload, 1) := by decide +kernel
theorem dL_law_1105 : decode cL_law 1105 = .ok (.invokevirtual 139, 3) := by decide +kernel
theorem dL_law_1108 : decode cL_law 1108 = .ok (.if_icmp .eq 5, 3) := by decide +kernel
theorem dL_law_1111 : decode cL_law 1111 = .ok (.iconst 0, 1) := by decide +kernel
theorem dL_law_1112 : decode cL_law 1112 = .ok (.ireturn, 1) := by decide +kernel
theorem dL_law_1113 : decode cL_law 1113 = .ok (.iinc 3 6, 3) := by decide +kernel
theorem dL_law_1116 : decode cL_law 1116 = .ok (.goto (-1098), 3) := by decide +kernel
theorem dL_law_1119 : decode cL_law 1119 = .ok (.iconst 1, 1) := by decide +kernel
theorem dL_law_1120 : decode cL_law 1120 = .ok (.ireturn, 1) := by decide +kernel
end
section
/-! MY LAYER OVER THE KIT'S ROWS: a context E, a goal 'Go' that hides the heap, the written places and the locals' array; contracts 'CT' in one form; a row an instruction, a row a call. -/
def TB : List Cond := lw_tbl.filter goodWord
theorem tb_mem (i : Nat) {w : Cond} (h : lw_tbl[i]? = some w) (hg : goodWord w = true) : w ∈ TB := List.mem_filter.mpr ⟨List.mem_of_getElem? h, hg⟩
theorem tb_good {w : Cond} (h : w ∈ TB) : (w.onTables && w.keeps) = true ∨ ∃ ty, w = .arrayClass ty := good_of_word (List.mem_filter.mp h).2
abbrev NL : List (String × Nat × MethodName × String) := [("SieveLoft", 9, ⟨"SieveLoft$Mill", "<init>", "()V"⟩, "SieveLoft"), ("SieveLoft", 28, ⟨"SieveLoft$Search", "<init>", "()V"⟩, "SieveLoft"), ("SieveLoft", 35, ⟨"SieveLoft$Tape", "<init>", "()V"⟩, "SieveLoft"), ("SieveLoft", 46, ⟨"SieveLoft$Sheet", "<init>", "()V"⟩, "SieveLoft"), ("SieveLoft$Mill", 53, ⟨"SieveLoft", "put", "([III)V"⟩, "SieveLoft"), ("SieveLoft$Tape", 19, ⟨"SieveLoft", "put", "([III)V"⟩, "SieveLoft"), ("SieveLoft$Tape", 88, ⟨"SieveLoft", "at", "([II)I"⟩, "SieveLoft"), ("SieveLoft$Tape", 71, ⟨"SieveLoft", "within", "(III)Z"⟩, "SieveLoft"), ("SieveLoft$Mill", 57, ⟨"SieveLoft", "copyAll", "([I[I)V"⟩, "SieveLoft"), ("SieveLoft$Mill", 49, ⟨"SieveLoft", "at", "([II)I"⟩, "SieveLoft"), ("SieveLoft$Search", 31, ⟨"SieveLoft", "copyAll", "([I[I)V"⟩, "SieveLoft"), ("SieveLoft$Search", 41, ⟨"SieveLoft", "at", "([II)I"⟩, "SieveLoft"), ("SieveLoft$Sheet", 32, ⟨"SieveLoft", "put", "([III)V"⟩, "SieveLoft")]
def NWs (U : State) : Prop := (∀ q ∈ NL, va_Nw (.methodLinkNest q.1 q.2.1 q.2.2.1 q.2.2.2) U) ∧ va_AO RX2 U
theorem NWs.warm {s U : State} (hW : s.WarmedH U.vm) (h : NWs s) : NWs U := ⟨fun q hq => (h.1 q hq).warmM hW, va_AO.moved hW.alike h.2⟩
theorem NWs.same {u U : State} (hv : u.vm = U.vm) (h : NWs u) : NWs U := ⟨fun q hq => (h.1 q hq).same rfl hv, va_AO.moved (by rw [hv]; exact Vm.Alike.refl U.vm) h.2⟩
abbrev TYS (cI cS : ClassId) : List (ClassId × FieldType) := [(cI, .int), (cS, .object RX2)]
def rmD (d mc ms : Nat) : Room := { frames := d, cells := mc, slots := ms, locals := 64 * d }
abbrev CX : Type := Program × Launch × Env × Room × State × MethodId × Array Value × List Frame × Method × Code × va_G × (Nat → Prop)
def Go (E : CX) (Q : State → Prop) (nL cells slots pc : Nat) (lv : List (Nat × Value)) (st : List Value) (ws : va_W) : Prop := match E with
  | (p, l, e, R, s, m, args, below, meth, c, D, A) => ∀ (H : Heap) (locs : List Loc) (ls : Array Slot), va_P D vwCl ws H → va_D A ws → va_S A s.heap H locs → lv_has ls nL lv → W p l e R s m args below meth c H locs cells slots Q (F0 m pc ls st)
def CxOk (E : CX) (cI cS : ClassId) (own : String) (cc : ByteArray) (nL : Nat) (ret : Option FieldType) (d mc ms : Nat) : Prop := match E with
  | (p, l, e, R, s, m, args, below, meth, c, D, A) => p.tables.exec = Jvm.exec ∧ c.code = cc ∧ c.maxLocals = nL ∧ s.vm.findClass own = some m.cls ∧ (∀ w ∈ TB, w.before args s = true) ∧ va_K D vwCl (TYS cI cS) s ∧ NWs s ∧ (∀ q : Nat, s.heap.size ≤ q → A q) ∧ d ≤ R.frames ∧ 64 * d ≤ R.locals ∧ mc ≤ R.cells ∧ ms ≤ R.slots ∧ meth.locks = false ∧ meth.sig.returnType = ret
def Qg {S : Type} (cI cS : ClassId) (D : va_G) (A : Nat → Prop) (P : S → Prop) (val : S → Option Value) (wr : S → va_W) : Array Value → State → Outcome → State → Prop := fun _ st oc t => (∃ u : S, oc = .returned (val u) ∧ P u ∧ va_P D vwCl (wr u) t.heap ∧ va_D A (wr u)) ∧ va_F A st t
def Bf (cI cS : ClassId) (D : va_G) (sz : Nat) (w : va_W) (U : State) : Prop := U.heap.size = sz ∧ va_P D vwCl w U.heap ∧ va_K D vwCl (TYS cI cS) U ∧ va_D (fun _ => True) w ∧ NWs U
def CT (cI cS : ClassId) (y : MethodName) (cc : ByteArray) (maxL : Nat) (ret : Option FieldType) (d : Nat) (av : List Value) (w : va_W) (mc ms : Nat) {S : Type} (P : S → Prop) (val : S → Option Value) (wr : S → va_W) : Prop :=
  ∀ (l : Launch) (D : va_G) (sz : Nat), Met l y (Cond.code y cc maxL ret :: TB) (rmD d mc ms) (va_Pc av (Bf cI cS D sz w)) (Qg cI cS D (va_A w sz) P val wr) mc ms (va_A w sz)
def EndOk {S : Type} (E : CX) (Q : State → Prop) (cI cS : ClassId) (mc ms : Nat) (P : S → Prop) (val : S → Option Value) (wr : S → va_W) : Prop := match E with
  | (p, l, e, R, s, m, args, below, meth, c, D, A) => Q = MQ below (Qg cI cS D A P val wr) args s mc ms A
/-- the constructor's name, for final fields -/
def CxIn (E : CX) : Prop := match E with
  | (p, l, e, R, s, m, args, below, meth, c, D, A) => meth.name = "<init>"
theorem ct_intro {cI cS : ClassId} {y : MethodName} {cc : ByteArray} {maxL : Nat} {ret : Option FieldType} {d : Nat} {av : List Value} {w : va_W} {mc ms : Nat} {S : Type} {P : S → Prop} {val : S → Option Value} {wr : S → va_W}
    (hy : plainName y.cls = true) (hlen : (lg_sl av).length ≤ maxL)
    (body : ∀ (E : CX) (Q : State → Prop), CxOk E cI cS y.cls cc maxL ret d mc ms → EndOk E Q cI cS mc ms P val wr → (y.name = "<init>" → CxIn E) → Go E Q maxL 0 0 0 (lv_args 0 av) [] w) : CT cI cS y cc maxL ret d av w mc ms P val wr := by
  intro l D sz
  refine Met.ofW (cc := cc) (maxL := maxL) (ret := ret) hy rfl ?_
  intro p e s m args below meth c s₁ B hml hv
  obtain ⟨rfl, hsz, hP, hK, hD0, hN⟩ := hv
  have hts := atoms_spec (ws := Cond.code y cc maxL ret :: TB) B.pre
  subst hsz
  have hD := hD0.self (sz := s.heap.size)
  have hl := lv_entry av (n := maxL) hlen
  rw [lg_entry_eq]
  exact body (p, l, e, (headSpec (Cond.code y cc maxL ret :: TB) (rmD d mc ms)).room, s, m, av.toArray, below, meth, c, D, va_A w s.heap.size) _
    ⟨B.exec, B.bytes, hml, findClass_of_methodNamed B.named, fun v hv => hts v (List.mem_cons_of_mem _ hv), hK, hN, fun q h => Or.inr h, Nat.le_refl _, Nat.le_refl _, Nat.le_refl _, Nat.le_refl _, B.notSynchronized, B.returns⟩
    rfl (fun h => (name_of_methodNamed B.named B.method).1.trans h) s.heap [] _ hP hD va_S.rf hl
section GO
variable {E : CX} {Q : State → Prop} {cI cS : ClassId} {own : String} {cc : ByteArray} {ret : Option FieldType} {nL cells slots pc d mc ms : Nat} {lv : List (Nat × Value)} {st : List Value} {ws : va_W}
theorem g_iconst (hE : CxOk E cI cS own cc nL ret d mc ms) {n : Int} (hd : decode cc pc = .ok (.iconst n, 1)) (v : Int32) (hv : Int32.ofInt n = v) (k : Go E Q nL cells slots (pc + 1) lv (.int v :: st) ws) : Go E Q nL cells slots pc lv st ws := by
  obtain ⟨p, l, e, R, s, m, args, below, meth, c, D, A⟩ := E
  intro H locs ls hP hD hS hl
  exact lv_iconst hE.1 hE.2.1 hd hv (k H locs ls hP hD hS hl)
theorem g_bipush (hE : CxOk E cI cS own cc nL ret d mc ms) {n : Int} (hd : decode cc pc = .ok (.bipush n, 2)) (v : Int32) (hv : (Int8.ofInt n).toInt32 = v) (k : Go E Q nL cells slots (pc + 2) lv (.int v :: st) ws) : Go E Q nL cells slots pc lv st ws := by
  obtain ⟨p, l, e, R, s, m, args, below, meth, c, D, A⟩ := E
  intro H locs ls hP hD hS hl
  exact lv_bipush hE.1 hE.2.1 hd hv (k H locs ls hP hD hS hl)
theorem g_sipush (hE : CxOk E cI cS own cc nL ret d mc ms) {n : Int} (hd : decode cc pc = .ok (.sipush n, 3)) (v : Int32) (hv : (Int16.ofInt n).toInt32 = v) (k : Go E Q nL cells slots (pc + 3) lv (.int v :: st) ws) : Go E Q nL cells slots pc lv st ws := by
  obtain ⟨p, l, e, R, s, m, args, below, meth, c, D, A⟩ := E
  intro H locs ls hP hD hS hl
  exact lv_sipush hE.1 hE.2.1 hd hv (k H locs ls hP hD hS hl)
theorem g_lconst (hE : CxOk E cI cS own cc nL ret d mc ms) {n : Fin 2} (hd : decode cc pc = .ok (.lconst n, 1)) (v : Int64) (hv : Int64.ofNat (n : Nat) = v) (k : Go E Q nL cells slots (pc + 1) lv (.long v :: st) ws) : Go E Q nL cells slots pc lv st ws := by
  obtain ⟨p, l, e, R, s, m, args, below, meth, c, D, A⟩ := E
  intro H locs ls hP hD hS hl
  exact lv_lconst hE.1 hE.2.1 hd hv (k H locs ls hP hD hS hl)
theorem g_ldc (hE : CxOk E cI cS own cc nL ret d mc ms) {index : Nat} {v : Int32} (hd : decode cc pc = .ok (.ldc index, 2)) (hc : Cond.constant own index v ∈ TB) (k : Go E Q nL cells slots (pc + 2) lv (.int v :: st) ws) : Go E Q nL cells slots pc lv st ws := by
  obtain ⟨p, l, e, R, s, m, args, below, meth, c, D, A⟩ := E
  obtain ⟨hx, hb, hml, hown, hts, -⟩ := hE
  intro H locs ls hP hD hS hl
  exact lv_ldc hx hb hown (hts _ hc) hd (k H locs ls hP hD hS hl)
theorem g_ldc2 (hE : CxOk E cI cS own cc nL ret d mc ms) {index : Nat} {v : Int64} (hd : decode cc pc = .ok (.ldc2_w index, 3)) (hc : Cond.constantLong own index v ∈ TB) (k : Go E Q nL cells slots (pc + 3) lv (.long v :: st) ws) : Go E Q nL cells slots pc lv st ws := by
  obtain ⟨p, l, e, R, s, m, args, below, meth, c, D, A⟩ := E
  obtain ⟨hx, hb, hml, hown, hts, -⟩ := hE
  intro H locs ls hP hD hS hl
  exact lv_ldc2 hx hb hown (hts _ hc) hd (k H locs ls hP hD hS hl)
theorem g_iload_n (hE : CxOk E cI cS own cc nL ret d mc ms) {k : Fin 4} {x : Int32} (hd : decode cc pc = .ok (.iload_n k, 1)) (j : Nat) (hl : lv[j]? = some ((k : Nat), .int x)) (kk : Go E Q nL cells slots (pc + 1) lv (.int x :: st) ws) : Go E Q nL cells slots pc lv st ws := by
  obtain ⟨p, l, e, R, s, m, args, below, meth, c, D, A⟩ := E
  intro H locs ls hP hD hS hl0
  exact lv_iload_n hE.1 hE.2.1 hd rfl (lv_at hl0 j hl) (kk H locs ls hP hD hS hl0)
theorem g_iload (hE : CxOk E cI cS own cc nL ret d mc ms) {i : Nat} {x : Int32} (hd : decode cc pc = .ok (.iload i, 2)) (j : Nat) (hl : lv[j]? = some (i, .int x)) (kk : Go E Q nL cells slots (pc + 2) lv (.int x :: st) ws) : Go E Q nL cells slots pc lv st ws := by
  obtain ⟨p, l, e, R, s, m, args, below, meth, c, D, A⟩ := E
  intro H locs ls hP hD hS hl0
  exact lv_iload hE.1 hE.2.1 hd (lv_at hl0 j hl) (kk H locs ls hP hD hS hl0)
theorem g_lload_n (hE : CxOk E cI cS own cc nL ret d mc ms) {k : Fin 4} {x : Int64} (hd : decode cc pc = .ok (.lload_n k, 1)) (j : Nat) (hl : lv[j]? = some ((k : Nat), .long x)) (kk : Go E Q nL cells slots (pc + 1) lv (.long x :: st) ws) : Go E Q nL cells slots pc lv st ws := by
  obtain ⟨p, l, e, R, s, m, args, below, meth, c, D, A⟩ := E
  intro H locs ls hP hD hS hl0
  exact lv_lload_n hE.1 hE.2.1 hd rfl (lv_at hl0 j hl) (kk H locs ls hP hD hS hl0)
theorem g_lload (hE : CxOk E cI cS own cc nL ret d mc ms) {i : Nat} {x : Int64} (hd : decode cc pc = .ok (.lload i, 2)) (j : Nat) (hl : lv[j]? = some (i, .long x)) (kk : Go E Q nL cells slots (pc + 2) lv (.long x :: st) ws) : Go E Q nL cells slots pc lv st ws := by
  obtain ⟨p, l, e, R, s, m, args, below, meth, c, D, A⟩ := E
  intro H locs ls hP hD hS hl0
  exact lv_lload hE.1 hE.2.1 hd (lv_at hl0 j hl) (kk H locs ls hP hD hS hl0)
theorem g_aload_n (hE : CxOk E cI cS own cc nL ret d mc ms) {k : Fin 4} {x : Nat} (hd : decode cc pc = .ok (.aload_n k, 1)) (j : Nat) (hl : lv[j]? = some ((k : Nat), .ref x)) (kk : Go E Q nL cells slots (pc + 1) lv (.ref x :: st) ws) : Go E Q nL cells slots pc lv st ws := by
  obtain ⟨p, l, e, R, s, m, args, below, meth, c, D, A⟩ := E
  intro H locs ls hP hD hS hl0
  exact lv_aload_n hE.1 hE.2.1 hd rfl (lv_at hl0 j hl) (kk H locs ls hP hD hS hl0)
theorem g_aload (hE : CxOk E cI cS own cc nL ret d mc ms) {i : Nat} {x : Nat} (hd : decode cc pc = .ok (.aload i, 2)) (j : Nat) (hl : lv[j]? = some (i, .ref x)) (kk : Go E Q nL cells slots (pc + 2) lv (.ref x :: st) ws) : Go E Q nL cells slots pc lv st ws := by
  obtain ⟨p, l, e, R, s, m, args, below, meth, c, D, A⟩ := E
  intro H locs ls hP hD hS hl0
  exact lv_aload hE.1 hE.2.1 hd (lv_at hl0 j hl) (kk H locs ls hP hD hS hl0)
theorem g_aload_nN (hE : CxOk E cI cS own cc nL ret d mc ms) {k : Fin 4} (hd : decode cc pc = .ok (.aload_n k, 1)) (j : Nat) (hl : lv[j]? = some ((k : Nat), .null)) (kk : Go E Q nL cells slots (pc + 1) lv (.null :: st) ws) : Go E Q nL cells slots pc lv st ws := by
  obtain ⟨p, l, e, R, s, m, args, below, meth, c, D, A⟩ := E
  intro H locs ls hP hD hS hl0
  exact lv_aload_nN hE.1 hE.2.1 hd rfl (lv_at hl0 j hl) (kk H locs ls hP hD hS hl0)
theorem g_aloadN (hE : CxOk E cI cS own cc nL ret d mc ms) {i : Nat} (hd : decode cc pc = .ok (.aload i, 2)) (j : Nat) (hl : lv[j]? = some (i, .null)) (kk : Go E Q nL cells slots (pc + 2) lv (.null :: st) ws) : Go E Q nL cells slots pc lv st ws := by
  obtain ⟨p, l, e, R, s, m, args, below, meth, c, D, A⟩ := E
  intro H locs ls hP hD hS hl0
  exact lv_aloadN hE.1 hE.2.1 hd (lv_at hl0 j hl) (kk H locs ls hP hD hS hl0)
theorem g_istore_n (hE : CxOk E cI cS own cc nL ret d mc ms) {k : Fin 4} {i : Nat} {x : Int32} (hd : decode cc pc = .ok (.istore_n k, 1)) (lv' : List (Nat × Value)) (hi : (k : Nat) = i) (hn : i < nL) (hl : (i, Value.int x) :: lv.filter (fun q => !(q.1 == i) && !(q.1 + 1 == i && q.2.category == 2)) = lv') (kk : Go E Q nL cells slots (pc + 1) lv' st ws) : Go E Q nL cells slots pc lv (.int x :: st) ws := by
  obtain ⟨p, l, e, R, s, m, args, below, meth, c, D, A⟩ := E
  intro H locs ls hP hD hS hl0
  exact lv_istore_n hE.1 hE.2.1 hd hi hl0 hn hl (fun ls' h => kk H locs ls' hP hD hS h)
theorem g_istore (hE : CxOk E cI cS own cc nL ret d mc ms) {i : Nat} {x : Int32} (hd : decode cc pc = .ok (.istore i, 2)) (lv' : List (Nat × Value)) (hn : i < nL) (hl : (i, Value.int x) :: lv.filter (fun q => !(q.1 == i) && !(q.1 + 1 == i && q.2.category == 2)) = lv') (kk : Go E Q nL cells slots (pc + 2) lv' st ws) : Go E Q nL cells slots pc lv (.int x :: st) ws := by
  obtain ⟨p, l, e, R, s, m, args, below, meth, c, D, A⟩ := E
  intro H locs ls hP hD hS hl0
  exact lv_istore hE.1 hE.2.1 hd hl0 hn hl (fun ls' h => kk H locs ls' hP hD hS h)
theorem g_lstore_n (hE : CxOk E cI cS own cc nL ret d mc ms) {k : Fin 4} {i : Nat} {x : Int64} (hd : decode cc pc = .ok (.lstore_n k, 1)) (lv' : List (Nat × Value)) (hi : (k : Nat) = i) (hn : i + 1 < nL) (hl : (i, Value.long x) :: lv.filter (fun q => !(q.1 == i) && (!(q.1 == i + 1) && !(q.1 + 1 == i && q.2.category == 2))) = lv') (kk : Go E Q nL cells slots (pc + 1) lv' st ws) : Go E Q nL cells slots pc lv (.long x :: st) ws := by
  obtain ⟨p, l, e, R, s, m, args, below, meth, c, D, A⟩ := E
  intro H locs ls hP hD hS hl0
  exact lv_lstore_n hE.1 hE.2.1 hd hi hl0 hn hl (fun ls' h => kk H locs ls' hP hD hS h)
theorem g_lstore (hE : CxOk E cI cS own cc nL ret d mc ms) {i : Nat} {x : Int64} (hd : decode cc pc = .ok (.lstore i, 2)) (lv' : List (Nat × Value)) (hn : i + 1 < nL) (hl : (i, Value.long x) :: lv.filter (fun q => !(q.1 == i) && (!(q.1 == i + 1) && !(q.1 + 1 == i && q.2.category == 2))) = lv') (kk : Go E Q nL cells slots (pc + 2) lv' st ws) : Go E Q nL cells slots pc lv (.long x :: st) ws := by
  obtain ⟨p, l, e, R, s, m, args, below, meth, c, D, A⟩ := E
  intro H locs ls hP hD hS hl0
  exact lv_lstore hE.1 hE.2.1 hd hl0 hn hl (fun ls' h => kk H locs ls' hP hD hS h)
theorem g_astore_n (hE : CxOk E cI cS own cc nL ret d mc ms) {k : Fin 4} {i : Nat} {x : Nat} (hd : decode cc pc = .ok (.astore_n k, 1)) (lv' : List (Nat × Value)) (hi : (k : Nat) = i) (hn : i < nL) (hl : (i, Value.ref x) :: lv.filter (fun q => !(q.1 == i) && !(q.1 + 1 == i && q.2.category == 2)) = lv') (kk : Go E Q nL cells slots (pc + 1) lv' st ws) : Go E Q nL cells slots pc lv (.ref x :: st) ws := by
  obtain ⟨p, l, e, R, s, m, args, below, meth, c, D, A⟩ := E
  intro H locs ls hP hD hS hl0
  exact lv_astore_n hE.1 hE.2.1 hd hi hl0 hn hl (fun ls' h => kk H locs ls' hP hD hS h)
theorem g_astore (hE : CxOk E cI cS own cc nL ret d mc ms) {i : Nat} {x : Nat} (hd : decode cc pc = .ok (.astore i, 2)) (lv' : List (Nat × Value)) (hn : i < nL) (hl : (i, Value.ref x) :: lv.filter (fun q => !(q.1 == i) && !(q.1 + 1 == i && q.2.category == 2)) = lv') (kk : Go E Q nL cells slots (pc + 2) lv' st ws) : Go E Q nL cells slots pc lv (.ref x :: st) ws := by
  obtain ⟨p, l, e, R, s, m, args, below, meth, c, D, A⟩ := E
  intro H locs ls hP hD hS hl0
  exact lv_astore hE.1 hE.2.1 hd hl0 hn hl (fun ls' h => kk H locs ls' hP hD hS h)
theorem g_astore_nN (hE : CxOk E cI cS own cc nL ret d mc ms) {k : Fin 4} {i : Nat} (hd : decode cc pc = .ok (.astore_n k, 1)) (lv' : List (Nat × Value)) (hi : (k : Nat) = i) (hn : i < nL) (hl : (i, Value.null) :: lv.filter (fun q => !(q.1 == i) && !(q.1 + 1 == i && q.2.category == 2)) = lv') (kk : Go E Q nL cells slots (pc + 1) lv' st ws) : Go E Q nL cells slots pc lv (.null :: st) ws := by
  obtain ⟨p, l, e, R, s, m, args, below, meth, c, D, A⟩ := E
  intro H locs ls hP hD hS hl0
  exact lv_astore_nN hE.1 hE.2.1 hd hi hl0 hn hl (fun ls' h => kk H locs ls' hP hD hS h)
theorem g_astoreN (hE : CxOk E cI cS own cc nL ret d mc ms) {i : Nat} (hd : decode cc pc = .ok (.astore i, 2)) (lv' : List (Nat × Value)) (hn : i < nL) (hl : (i, Value.null) :: lv.filter (fun q => !(q.1 == i) && !(q.1 + 1 == i && q.2.category == 2)) = lv') (kk : Go E Q nL cells slots (pc + 2) lv' st ws) : Go E Q nL cells slots pc lv (.null :: st) ws := by
  obtain ⟨p, l, e, R, s, m, args, below, meth, c, D, A⟩ := E
  intro H locs ls hP hD hS hl0
  exact lv_astoreN hE.1 hE.2.1 hd hl0 hn hl (fun ls' h => kk H locs ls' hP hD hS h)
theorem g_iinc (hE : CxOk E cI cS own cc nL ret d mc ms) {i : Nat} {n : Int} {x : Int32} (hd : decode cc pc = .ok (.iinc i n, 3)) (k : Nat) (v : Int32) (lv' : List (Nat × Value)) (hk : lv[k]? = some (i, .int x)) (hv : x + Int32.ofInt n = v) (hn : i < nL) (hl : (i, Value.int v) :: lv.filter (fun q => !(q.1 == i) && !(q.1 + 1 == i && q.2.category == 2)) = lv') (kk : Go E Q nL cells slots (pc + 3) lv' st ws) : Go E Q nL cells slots pc lv st ws := by
  obtain ⟨p, l, e, R, s, m, args, below, meth, c, D, A⟩ := E
  intro H locs ls hP hD hS hl0
  exact lv_iinc hE.1 hE.2.1 hd hl0 hk hv hn hl (fun ls' h => kk H locs ls' hP hD hS h)
theorem g_iadd (hE : CxOk E cI cS own cc nL ret d mc ms) {x y : Int32} (hd : decode cc pc = .ok (.iadd, 1)) (kk : Go E Q nL cells slots (pc + 1) lv (.int (x + y) :: st) ws) : Go E Q nL cells slots pc lv (.int y :: .int x :: st) ws := by
  obtain ⟨p, l, e, R, s, m, args, below, meth, c, D, A⟩ := E
  intro H locs ls hP hD hS hl0
  exact lv_iadd hE.1 hE.2.1 hd (kk H locs ls hP hD hS hl0)
theorem g_isub (hE : CxOk E cI cS own cc nL ret d mc ms) {x y : Int32} (hd : decode cc pc = .ok (.isub, 1)) (kk : Go E Q nL cells slots (pc + 1) lv (.int (x - y) :: st) ws) : Go E Q nL cells slots pc lv (.int y :: .int x :: st) ws := by
  obtain ⟨p, l, e, R, s, m, args, below, meth, c, D, A⟩ := E
  intro H locs ls hP hD hS hl0
  exact lv_isub hE.1 hE.2.1 hd (kk H locs ls hP hD hS hl0)
theorem g_imul (hE : CxOk E cI cS own cc nL ret d mc ms) {x y : Int32} (hd : decode cc pc = .ok (.imul, 1)) (kk : Go E Q nL cells slots (pc + 1) lv (.int (x * y) :: st) ws) : Go E Q nL cells slots pc lv (.int y :: .int x :: st) ws := by
  obtain ⟨p, l, e, R, s, m, args, below, meth, c, D, A⟩ := E
  intro H locs ls hP hD hS hl0
  exact lv_imul hE.1 hE.2.1 hd (kk H locs ls hP hD hS hl0)
theorem g_iand (hE : CxOk E cI cS own cc nL ret d mc ms) {x y : Int32} (hd : decode cc pc = .ok (.iand, 1)) (kk : Go E Q nL cells slots (pc + 1) lv (.int (x &&& y) :: st) ws) : Go E Q nL cells slots pc lv (.int y :: .int x :: st) ws := by
  obtain ⟨p, l, e, R, s, m, args, below, meth, c, D, A⟩ := E
  intro H locs ls hP hD hS hl0
  exact lv_iand hE.1 hE.2.1 hd (kk H locs ls hP hD hS hl0)
theorem g_ior (hE : CxOk E cI cS own cc nL ret d mc ms) {x y : Int32} (hd : decode cc pc = .ok (.ior, 1)) (kk : Go E Q nL cells slots (pc + 1) lv (.int (x ||| y) :: st) ws) : Go E Q nL cells slots pc lv (.int y :: .int x :: st) ws := by
  obtain ⟨p, l, e, R, s, m, args, below, meth, c, D, A⟩ := E
  intro H locs ls hP hD hS hl0
  exact lv_ior hE.1 hE.2.1 hd (kk H locs ls hP hD hS hl0)
theorem g_ixor (hE : CxOk E cI cS own cc nL ret d mc ms) {x y : Int32} (hd : decode cc pc = .ok (.ixor, 1)) (kk : Go E Q nL cells slots (pc + 1) lv (.int (x ^^^ y) :: st) ws) : Go E Q nL cells slots pc lv (.int y :: .int x :: st) ws := by
  obtain ⟨p, l, e, R, s, m, args, below, meth, c, D, A⟩ := E
  intro H locs ls hP hD hS hl0
  exact lv_ixor hE.1 hE.2.1 hd (kk H locs ls hP hD hS hl0)
theorem g_ishl (hE : CxOk E cI cS own cc nL ret d mc ms) {x y : Int32} (hd : decode cc pc = .ok (.ishl, 1)) (kk : Go E Q nL cells slots (pc + 1) lv (.int (x <<< (y &&& 31)) :: st) ws) : Go E Q nL cells slots pc lv (.int y :: .int x :: st) ws := by
  obtain ⟨p, l, e, R, s, m, args, below, meth, c, D, A⟩ := E
  intro H locs ls hP hD hS hl0
  exact lv_ishl hE.1 hE.2.1 hd (kk H locs ls hP hD hS hl0)
theorem g_ishr (hE : CxOk E cI cS own cc nL ret d mc ms) {x y : Int32} (hd : decode cc pc = .ok (.ishr, 1)) (kk : Go E Q nL cells slots (pc + 1) lv (.int (x >>> (y &&& 31)) :: st) ws) : Go E Q nL cells slots pc lv (.int y :: .int x :: st) ws := by
  obtain ⟨p, l, e, R, s, m, args, below, meth, c, D, A⟩ := E
  intro H locs ls hP hD hS hl0
  exact lv_ishr hE.1 hE.2.1 hd (kk H locs ls hP hD hS hl0)
theorem g_idiv (hE : CxOk E cI cS own cc nL ret d mc ms) {x y : Int32} (hd : decode cc pc = .ok (.idiv, 1)) (hne : ¬ y = 0) (kk : Go E Q nL cells slots (pc + 1) lv (.int (x / y) :: st) ws) : Go E Q nL cells slots pc lv (.int y :: .int x :: st) ws := by
  obtain ⟨p, l, e, R, s, m, args, below, meth, c, D, A⟩ := E
  intro H locs ls hP hD hS hl0
  exact lv_idiv hE.1 hE.2.1 hd hne (kk H locs ls hP hD hS hl0)
theorem g_irem (hE : CxOk E cI cS own cc nL ret d mc ms) {x y : Int32} (hd : decode cc pc = .ok (.irem, 1)) (hne : ¬ y = 0) (kk : Go E Q nL cells slots (pc + 1) lv (.int (x - x / y * y) :: st) ws) : Go E Q nL cells slots pc lv (.int y :: .int x :: st) ws := by
  obtain ⟨p, l, e, R, s, m, args, below, meth, c, D, A⟩ := E
  intro H locs ls hP hD hS hl0
  exact lv_irem hE.1 hE.2.1 hd hne (kk H locs ls hP hD hS hl0)
theorem g_lsub (hE : CxOk E cI cS own cc nL ret d mc ms) {x y : Int64} (hd : decode cc pc = .ok (.lsub, 1)) (kk : Go E Q nL cells slots (pc + 1) lv (.long (x - y) :: st) ws) : Go E Q nL cells slots pc lv (.long y :: .long x :: st) ws := by
  obtain ⟨p, l, e, R, s, m, args, below, meth, c, D, A⟩ := E
  intro H locs ls hP hD hS hl0
  exact lv_lsub hE.1 hE.2.1 hd (kk H locs ls hP hD hS hl0)
theorem g_land (hE : CxOk E cI cS own cc nL ret d mc ms) {x y : Int64} (hd : decode cc pc = .ok (.land, 1)) (kk : Go E Q nL cells slots (pc + 1) lv (.long (x &&& y) :: st) ws) : Go E Q nL cells slots pc lv (.long y :: .long x :: st) ws := by
  obtain ⟨p, l, e, R, s, m, args, below, meth, c, D, A⟩ := E
  intro H locs ls hP hD hS hl0
  exact lv_land hE.1 hE.2.1 hd (kk H locs ls hP hD hS hl0)
theorem g_lor (hE : CxOk E cI cS own cc nL ret d mc ms) {x y : Int64} (hd : decode cc pc = .ok (.lor, 1)) (kk : Go E Q nL cells slots (pc + 1) lv (.long (x ||| y) :: st) ws) : Go E Q nL cells slots pc lv (.long y :: .long x :: st) ws := by
  obtain ⟨p, l, e, R, s, m, args, below, meth, c, D, A⟩ := E
  intro H locs ls hP hD hS hl0
  exact lv_lor hE.1 hE.2.1 hd (kk H locs ls hP hD hS hl0)
theorem g_i2l (hE : CxOk E cI cS own cc nL ret d mc ms) {x : Int32} (hd : decode cc pc = .ok (.i2l, 1)) (kk : Go E Q nL cells slots (pc + 1) lv (.long x.toInt64 :: st) ws) : Go E Q nL cells slots pc lv (.int x :: st) ws := by
  obtain ⟨p, l, e, R, s, m, args, below, meth, c, D, A⟩ := E
  intro H locs ls hP hD hS hl0
  exact lv_i2l hE.1 hE.2.1 hd rfl (kk H locs ls hP hD hS hl0)
theorem g_l2i (hE : CxOk E cI cS own cc nL ret d mc ms) {x : Int64} (hd : decode cc pc = .ok (.l2i, 1)) (kk : Go E Q nL cells slots (pc + 1) lv (.int x.toInt32 :: st) ws) : Go E Q nL cells slots pc lv (.long x :: st) ws := by
  obtain ⟨p, l, e, R, s, m, args, below, meth, c, D, A⟩ := E
  intro H locs ls hP hD hS hl0
  exact lv_l2i hE.1 hE.2.1 hd rfl (kk H locs ls hP hD hS hl0)
theorem g_i2b (hE : CxOk E cI cS own cc nL ret d mc ms) {x : Int32} (hd : decode cc pc = .ok (.i2b, 1)) (kk : Go E Q nL cells slots (pc + 1) lv (.int x.toInt8.toInt32 :: st) ws) : Go E Q nL cells slots pc lv (.int x :: st) ws := by
  obtain ⟨p, l, e, R, s, m, args, below, meth, c, D, A⟩ := E
  intro H locs ls hP hD hS hl0
  exact lv_i2b hE.1 hE.2.1 hd rfl (kk H locs ls hP hD hS hl0)
theorem g_i2s (hE : CxOk E cI cS own cc nL ret d mc ms) {x : Int32} (hd : decode cc pc = .ok (.i2s, 1)) (kk : Go E Q nL cells slots (pc + 1) lv (.int x.toInt16.toInt32 :: st) ws) : Go E Q nL cells slots pc lv (.int x :: st) ws := by
  obtain ⟨p, l, e, R, s, m, args, below, meth, c, D, A⟩ := E
  intro H locs ls hP hD hS hl0
  exact lv_i2s hE.1 hE.2.1 hd rfl (kk H locs ls hP hD hS hl0)
theorem g_lshl (hE : CxOk E cI cS own cc nL ret d mc ms) {x : Int64} {y : Int32} (hd : decode cc pc = .ok (.lshl, 1)) (kk : Go E Q nL cells slots (pc + 1) lv (.long (x <<< (y.toInt64 &&& 63)) :: st) ws) : Go E Q nL cells slots pc lv (.int y :: .long x :: st) ws := by
  obtain ⟨p, l, e, R, s, m, args, below, meth, c, D, A⟩ := E
  intro H locs ls hP hD hS hl0
  exact lv_lshl hE.1 hE.2.1 hd rfl (kk H locs ls hP hD hS hl0)
theorem g_lshr (hE : CxOk E cI cS own cc nL ret d mc ms) {x : Int64} {y : Int32} (hd : decode cc pc = .ok (.lshr, 1)) (kk : Go E Q nL cells slots (pc + 1) lv (.long (x >>> (y.toInt64 &&& 63)) :: st) ws) : Go E Q nL cells slots pc lv (.int y :: .long x :: st) ws := by
  obtain ⟨p, l, e, R, s, m, args, below, meth, c, D, A⟩ := E
  intro H locs ls hP hD hS hl0
  exact lv_lshr hE.1 hE.2.1 hd rfl (kk H locs ls hP hD hS hl0)
theorem g_iushr (hE : CxOk E cI cS own cc nL ret d mc ms) {x y : Int32} (hd : decode cc pc = .ok (.iushr, 1)) (kk : Go E Q nL cells slots (pc + 1) lv (.int ((x.toUInt32 >>> (y.toUInt32 &&& Int32.toUInt32 31)).toInt32) :: st) ws) : Go E Q nL cells slots pc lv (.int y :: .int x :: st) ws := by
  obtain ⟨p, l, e, R, s, m, args, below, meth, c, D, A⟩ := E
  intro H locs ls hP hD hS hl0
  exact lv_iushr hE.1 hE.2.1 hd rfl (kk H locs ls hP hD hS hl0)
theorem g_lcmp (hE : CxOk E cI cS own cc nL ret d mc ms) {x y : Int64} (hd : decode cc pc = .ok (.lcmp, 1)) (kk : Go E Q nL cells slots (pc + 1) lv (.int (lg_cmp x y) :: st) ws) : Go E Q nL cells slots pc lv (.long y :: .long x :: st) ws := by
  obtain ⟨p, l, e, R, s, m, args, below, meth, c, D, A⟩ := E
  intro H locs ls hP hD hS hl0
  exact W.lcmp hE.1 hE.2.1 hd (kk H locs ls hP hD hS hl0)
theorem g_ldcw (hE : CxOk E cI cS own cc nL ret d mc ms) {index : Nat} {v : Int32} (hd : decode cc pc = .ok (.ldc_w index, 3)) (hc : Cond.constant own index v ∈ TB) (kk : Go E Q nL cells slots (pc + 3) lv (.int v :: st) ws) : Go E Q nL cells slots pc lv st ws := by
  obtain ⟨p, l, e, R, s, m, args, below, meth, c, D, A⟩ := E
  obtain ⟨hx, hb, hml, hown, hts, -⟩ := hE
  intro H locs ls hP hD hS hl
  exact lv_ldcw hx hb hown (hts _ hc) hd (kk H locs ls hP hD hS hl)
theorem g_if_eq (hE : CxOk E cI cS own cc nL ret d mc ms) {x : Int32} {off : Int} (tgt : Nat) (hd : decode cc pc = .ok (.ifCond .eq off, 3)) (ht : (pc : Int) + off = (tgt : Int)) (kt : x = 0 → Go E Q nL cells slots tgt lv st ws) (kf : ¬ x = 0 → Go E Q nL cells slots (pc + 3) lv st ws) : Go E Q nL cells slots pc lv (.int x :: st) ws := by
  obtain ⟨p, l, e, R, s, m, args, below, meth, c, D, A⟩ := E
  intro H locs ls hP hD hS hl0
  exact lv_if_eq hE.1 hE.2.1 hd ht (fun h => kt h H locs ls hP hD hS hl0) (fun h => kf h H locs ls hP hD hS hl0)
theorem g_icmp_eq (hE : CxOk E cI cS own cc nL ret d mc ms) {x y : Int32} {off : Int} (tgt : Nat) (hd : decode cc pc = .ok (.if_icmp .eq off, 3)) (ht : (pc : Int) + off = (tgt : Int)) (kt : x = y → Go E Q nL cells slots tgt lv st ws) (kf : ¬ x = y → Go E Q nL cells slots (pc + 3) lv st ws) : Go E Q nL cells slots pc lv (.int y :: .int x :: st) ws := by
  obtain ⟨p, l, e, R, s, m, args, below, meth, c, D, A⟩ := E
  intro H locs ls hP hD hS hl0
  exact lv_icmp_eq hE.1 hE.2.1 hd ht (fun h => kt h H locs ls hP hD hS hl0) (fun h => kf h H locs ls hP hD hS hl0)
theorem g_if_ne (hE : CxOk E cI cS own cc nL ret d mc ms) {x : Int32} {off : Int} (tgt : Nat) (hd : decode cc pc = .ok (.ifCond .ne off, 3)) (ht : (pc : Int) + off = (tgt : Int)) (kt : ¬ x = 0 → Go E Q nL cells slots tgt lv st ws) (kf : x = 0 → Go E Q nL cells slots (pc + 3) lv st ws) : Go E Q nL cells slots pc lv (.int x :: st) ws := by
  obtain ⟨p, l, e, R, s, m, args, below, meth, c, D, A⟩ := E
  intro H locs ls hP hD hS hl0
  exact lv_if_ne hE.1 hE.2.1 hd ht (fun h => kt h H locs ls hP hD hS hl0) (fun h => kf h H locs ls hP hD hS hl0)
theorem g_icmp_ne (hE : CxOk E cI cS own cc nL ret d mc ms) {x y : Int32} {off : Int} (tgt : Nat) (hd : decode cc pc = .ok (.if_icmp .ne off, 3)) (ht : (pc : Int) + off = (tgt : Int)) (kt : ¬ x = y → Go E Q nL cells slots tgt lv st ws) (kf : x = y → Go E Q nL cells slots (pc + 3) lv st ws) : Go E Q nL cells slots pc lv (.int y :: .int x :: st) ws := by
  obtain ⟨p, l, e, R, s, m, args, below, meth, c, D, A⟩ := E
  intro H locs ls hP hD hS hl0
  exact lv_icmp_ne hE.1 hE.2.1 hd ht (fun h => kt h H locs ls hP hD hS hl0) (fun h => kf h H locs ls hP hD hS hl0)
theorem g_if_lt (hE : CxOk E cI cS own cc nL ret d mc ms) {x : Int32} {off : Int} (tgt : Nat) (hd : decode cc pc = .ok (.ifCond .lt off, 3)) (ht : (pc : Int) + off = (tgt : Int)) (kt : x < 0 → Go E Q nL cells slots tgt lv st ws) (kf : ¬ x < 0 → Go E Q nL cells slots (pc + 3) lv st ws) : Go E Q nL cells slots pc lv (.int x :: st) ws := by
  obtain ⟨p, l, e, R, s, m, args, below, meth, c, D, A⟩ := E
  intro H locs ls hP hD hS hl0
  exact lv_if_lt hE.1 hE.2.1 hd ht (fun h => kt h H locs ls hP hD hS hl0) (fun h => kf h H locs ls hP hD hS hl0)
theorem g_icmp_lt (hE : CxOk E cI cS own cc nL ret d mc ms) {x y : Int32} {off : Int} (tgt : Nat) (hd : decode cc pc = .ok (.if_icmp .lt off, 3)) (ht : (pc : Int) + off = (tgt : Int)) (kt : x < y → Go E Q nL cells slots tgt lv st ws) (kf : ¬ x < y → Go E Q nL cells slots (pc + 3) lv st ws) : Go E Q nL cells slots pc lv (.int y :: .int x :: st) ws := by
  obtain ⟨p, l, e, R, s, m, args, below, meth, c, D, A⟩ := E
  intro H locs ls hP hD hS hl0
  exact lv_icmp_lt hE.1 hE.2.1 hd ht (fun h => kt h H locs ls hP hD hS hl0) (fun h => kf h H locs ls hP hD hS hl0)
theorem g_if_ge (hE : CxOk E cI cS own cc nL ret d mc ms) {x : Int32} {off : Int} (tgt : Nat) (hd : decode cc pc = .ok (.ifCond .ge off, 3)) (ht : (pc : Int) + off = (tgt : Int)) (kt : 0 ≤ x → Go E Q nL cells slots tgt lv st ws) (kf : ¬ 0 ≤ x → Go E Q nL cells slots (pc + 3) lv st ws) : Go E Q nL cells slots pc lv (.int x :: st) ws := by
  obtain ⟨p, l, e, R, s, m, args, below, meth, c, D, A⟩ := E
  intro H locs ls hP hD hS hl0
  exact lv_if_ge hE.1 hE.2.1 hd ht (fun h => kt h H locs ls hP hD hS hl0) (fun h => kf h H locs ls hP hD hS hl0)
theorem g_icmp_ge (hE : CxOk E cI cS own cc nL ret d mc ms) {x y : Int32} {off : Int} (tgt : Nat) (hd : decode cc pc = .ok (.if_icmp .ge off, 3)) (ht : (pc : Int) + off = (tgt : Int)) (kt : y ≤ x → Go E Q nL cells slots tgt lv st ws) (kf : ¬ y ≤ x → Go E Q nL cells slots (pc + 3) lv st ws) : Go E Q nL cells slots pc lv (.int y :: .int x :: st) ws := by
  obtain ⟨p, l, e, R, s, m, args, below, meth, c, D, A⟩ := E
  intro H locs ls hP hD hS hl0
  exact lv_icmp_ge hE.1 hE.2.1 hd ht (fun h => kt h H locs ls hP hD hS hl0) (fun h => kf h H locs ls hP hD hS hl0)
theorem g_if_gt (hE : CxOk E cI cS own cc nL ret d mc ms) {x : Int32} {off : Int} (tgt : Nat) (hd : decode cc pc = .ok (.ifCond .gt off, 3)) (ht : (pc : Int) + off = (tgt : Int)) (kt : 0 < x → Go E Q nL cells slots tgt lv st ws) (kf : ¬ 0 < x → Go E Q nL cells slots (pc + 3) lv st ws) : Go E Q nL cells slots pc lv (.int x :: st) ws := by
  obtain ⟨p, l, e, R, s, m, args, below, meth, c, D, A⟩ := E
  intro H locs ls hP hD hS hl0
  exact lv_if_gt hE.1 hE.2.1 hd ht (fun h => kt h H locs ls hP hD hS hl0) (fun h => kf h H locs ls hP hD hS hl0)
theorem g_icmp_gt (hE : CxOk E cI cS own cc nL ret d mc ms) {x y : Int32} {off : Int} (tgt : Nat) (hd : decode cc pc = .ok (.if_icmp .gt off, 3)) (ht : (pc : Int) + off = (tgt : Int)) (kt : y < x → Go E Q nL cells slots tgt lv st ws) (kf : ¬ y < x → Go E Q nL cells slots (pc + 3) lv st ws) : Go E Q nL cells slots pc lv (.int y :: .int x :: st) ws := by
  obtain ⟨p, l, e, R, s, m, args, below, meth, c, D, A⟩ := E
  intro H locs ls hP hD hS hl0
  exact lv_icmp_gt hE.1 hE.2.1 hd ht (fun h => kt h H locs ls hP hD hS hl0) (fun h => kf h H locs ls hP hD hS hl0)
theorem g_if_le (hE : CxOk E cI cS own cc nL ret d mc ms) {x : Int32} {off : Int} (tgt : Nat) (hd : decode cc pc = .ok (.ifCond .le off, 3)) (ht : (pc : Int) + off = (tgt : Int)) (kt : x ≤ 0 → Go E Q nL cells slots tgt lv st ws) (kf : ¬ x ≤ 0 → Go E Q nL cells slots (pc + 3) lv st ws) : Go E Q nL cells slots pc lv (.int x :: st) ws := by
  obtain ⟨p, l, e, R, s, m, args, below, meth, c, D, A⟩ := E
  intro H locs ls hP hD hS hl0
  exact lv_if_le hE.1 hE.2.1 hd ht (fun h => kt h H locs ls hP hD hS hl0) (fun h => kf h H locs ls hP hD hS hl0)
theorem g_icmp_le (hE : CxOk E cI cS own cc nL ret d mc ms) {x y : Int32} {off : Int} (tgt : Nat) (hd : decode cc pc = .ok (.if_icmp .le off, 3)) (ht : (pc : Int) + off = (tgt : Int)) (kt : x ≤ y → Go E Q nL cells slots tgt lv st ws) (kf : ¬ x ≤ y → Go E Q nL cells slots (pc + 3) lv st ws) : Go E Q nL cells slots pc lv (.int y :: .int x :: st) ws := by
  obtain ⟨p, l, e, R, s, m, args, below, meth, c, D, A⟩ := E
  intro H locs ls hP hD hS hl0
  exact lv_icmp_le hE.1 hE.2.1 hd ht (fun h => kt h H locs ls hP hD hS hl0) (fun h => kf h H locs ls hP hD hS hl0)
theorem g_goto (hE : CxOk E cI cS own cc nL ret d mc ms) {off : Int} (tgt : Nat) (hd : decode cc pc = .ok (.goto off, 3)) (ht : (pc : Int) + off = (tgt : Int)) (kk : Go E Q nL cells slots tgt lv st ws) : Go E Q nL cells slots pc lv st ws := by
  obtain ⟨p, l, e, R, s, m, args, below, meth, c, D, A⟩ := E
  intro H locs ls hP hD hS hl
  exact lv_goto hE.1 hE.2.1 hd ht (kk H locs ls hP hD hS hl)
theorem g_ifnull (hE : CxOk E cI cS own cc nL ret d mc ms) {x : Nat} {off : Int} (hd : decode cc pc = .ok (.ifnull off, 3)) (kk : Go E Q nL cells slots (pc + 3) lv st ws) : Go E Q nL cells slots pc lv (.ref x :: st) ws := by
  obtain ⟨p, l, e, R, s, m, args, below, meth, c, D, A⟩ := E
  intro H locs ls hP hD hS hl
  exact lv_ifnull hE.1 hE.2.1 hd (kk H locs ls hP hD hS hl)
theorem g_ifnullN (hE : CxOk E cI cS own cc nL ret d mc ms) {off : Int} (tgt : Nat) (hd : decode cc pc = .ok (.ifnull off, 3)) (ht : (pc : Int) + off = (tgt : Int)) (kk : Go E Q nL cells slots tgt lv st ws) : Go E Q nL cells slots pc lv (.null :: st) ws := by
  obtain ⟨p, l, e, R, s, m, args, below, meth, c, D, A⟩ := E
  intro H locs ls hP hD hS hl
  exact lv_ifnullN hE.1 hE.2.1 hd ht (kk H locs ls hP hD hS hl)
theorem g_ifnonnull (hE : CxOk E cI cS own cc nL ret d mc ms) {x : Nat} {off : Int} (tgt : Nat) (hd : decode cc pc = .ok (.ifnonnull off, 3)) (ht : (pc : Int) + off = (tgt : Int)) (kk : Go E Q nL cells slots tgt lv st ws) : Go E Q nL cells slots pc lv (.ref x :: st) ws := by
  obtain ⟨p, l, e, R, s, m, args, below, meth, c, D, A⟩ := E
  intro H locs ls hP hD hS hl
  exact lv_ifnonnull hE.1 hE.2.1 hd ht (kk H locs ls hP hD hS hl)
theorem g_ifnonnullN (hE : CxOk E cI cS own cc nL ret d mc ms) {off : Int} (hd : decode cc pc = .ok (.ifnonnull off, 3)) (kk : Go E Q nL cells slots (pc + 3) lv st ws) : Go E Q nL cells slots pc lv (.null :: st) ws := by
  obtain ⟨p, l, e, R, s, m, args, below, meth, c, D, A⟩ := E
  intro H locs ls hP hD hS hl
  exact lv_ifnonnullN hE.1 hE.2.1 hd (kk H locs ls hP hD hS hl)
theorem g_null (hE : CxOk E cI cS own cc nL ret d mc ms) (hd : decode cc pc = .ok (.aconst_null, 1)) (kk : Go E Q nL cells slots (pc + 1) lv (.null :: st) ws) : Go E Q nL cells slots pc lv st ws := by
  obtain ⟨p, l, e, R, s, m, args, below, meth, c, D, A⟩ := E
  intro H locs ls hP hD hS hl
  exact lv_null hE.1 hE.2.1 hd (kk H locs ls hP hD hS hl)
theorem g_dup (hE : CxOk E cI cS own cc nL ret d mc ms) {v : Value} (hd : decode cc pc = .ok (.dup, 1)) (hc : v.category = 1) (kk : Go E Q nL cells slots (pc + 1) lv (v :: v :: st) ws) : Go E Q nL cells slots pc lv (v :: st) ws := by
  obtain ⟨p, l, e, R, s, m, args, below, meth, c, D, A⟩ := E
  intro H locs ls hP hD hS hl
  exact lv_dup hE.1 hE.2.1 hd hc (kk H locs ls hP hD hS hl)
theorem g_dup2 (hE : CxOk E cI cS own cc nL ret d mc ms) {v w : Value} (hd : decode cc pc = .ok (.dup2, 1)) (hc : v.category = 1) (hw : w.category = 1) (kk : Go E Q nL cells slots (pc + 1) lv (v :: w :: v :: w :: st) ws) : Go E Q nL cells slots pc lv (v :: w :: st) ws := by
  obtain ⟨p, l, e, R, s, m, args, below, meth, c, D, A⟩ := E
  intro H locs ls hP hD hS hl
  exact lv_dup2_11 hE.1 hE.2.1 hd hc hw (kk H locs ls hP hD hS hl)
theorem g_pop (hE : CxOk E cI cS own cc nL ret d mc ms) {v : Value} (hd : decode cc pc = .ok (.pop, 1)) (hc : v.category = 1) (kk : Go E Q nL cells slots (pc + 1) lv st ws) : Go E Q nL cells slots pc lv (v :: st) ws := by
  obtain ⟨p, l, e, R, s, m, args, below, meth, c, D, A⟩ := E
  intro H locs ls hP hD hS hl
  exact lv_pop hE.1 hE.2.1 hd hc (kk H locs ls hP hD hS hl)
/-- a switch over lo .. hi: one goal for each number, one for all others -/
theorem g_sw (hE : CxOk E cI cS own cc nL ret d mc ms) {dflt lo hi : Int} {offs : Array Int} {len : Nat} {x : Int32} (hd : decode cc pc = .ok (.tableswitch dflt lo hi offs, len)) (td : Nat) (tg : Nat → Nat) (htd : (pc : Int) + dflt = (td : Int)) (n : Nat) (hn : hi - lo + 1 = n)
    (ho : ∀ j, j < n → ∃ o, offs[j]? = some o ∧ (pc : Int) + o = (tg j : Int)) (kd : (x.toInt < lo ∨ hi < x.toInt) → Go E Q nL cells slots td lv st ws) (kk : ∀ j : Nat, j < n → x.toInt = lo + j → Go E Q nL cells slots (tg j) lv st ws) : Go E Q nL cells slots pc lv (.int x :: st) ws := by
  obtain ⟨p, l, e, R, s, m, args, below, meth, c, D, A⟩ := E
  intro H locs ls hP hD hS hl
  by_cases h : x.toInt < lo ∨ hi < x.toInt
  · exact lv_tableOut hE.1 hE.2.1 hd h htd (kd h H locs ls hP hD hS hl)
  · have h1 : ¬ x.toInt < lo := fun q => h (Or.inl q)
    have h2 : ¬ hi < x.toInt := fun q => h (Or.inr q)
    obtain ⟨o, e1, e2⟩ := ho (x.toInt - lo).toNat (by omega)
    exact lv_tableIn hE.1 hE.2.1 hd h1 h2 e1 e2 (kk (x.toInt - lo).toNat (by omega) (by omega) H locs ls hP hD hS hl)
-- the heap
/-- a field that a class' code names by its pool's place: which kind of object, which slot -/
def FL (own : String) (index ci k : Nat) : Prop := ∃ (C : String) (T : u_T) (N : Nat), vwCl[ci]? = some (C, T, N) ∧ k < N ∧ (∀ w ∈ u_ws C T N, w ∈ TB) ∧ Cond.fieldLink own index (T k).1 (T k).2.1 (T k).2.2.1 ∈ TB
def FP (ci k : Nat) (fin : Bool) (ty : FieldType) : Prop := ∃ (C : String) (T : u_T) (N : Nat) (ty0 : Nat → FieldType), vwCl[ci]? = some (C, T, N) ∧ (∀ k, k < N → parseFieldDescriptor (T k).2.2.1 = some (ty0 k)) ∧ (∀ a, a < N → ∀ b, b < N → a ≠ b → (T a).2.1 ≠ (T b).2.1) ∧ (T k).2.2.2 = fin ∧ parseFieldDescriptor (T k).2.2.1 = some ty
theorem g_get (hE : CxOk E cI cS own cc nL ret d mc ms) {index ci k : Nat} (hf : FL own index ci k) (hd : decode cc pc = .ok (.getfield index, 3)) {a : Nat} {fs : List Value} {v : Value} (q0 : Nat) (he : ws[q0]? = some (a, .inr (ci, fs))) (hv : fs[k]? = some v) (kk : Go E Q nL cells slots (pc + 3) lv (v :: st) ws) : Go E Q nL cells slots pc lv (.ref a :: st) ws := by
  obtain ⟨p, l, e, R, s, m, args, below, meth, c, D, A⟩ := E
  obtain ⟨hx, hb, hml, hown, hts, hK, -⟩ := hE
  obtain ⟨C, T, N, hc, hk, hin, hlk⟩ := hf
  intro H locs ls hP hD hS hl
  exact va_get hx hb hts hin hown hK hP q0 he hc k hk (hts _ hlk) (fun _ h9 => h9) hv hd (kk H locs ls hP hD hS hl)
theorem g_put (hE : CxOk E cI cS own cc nL ret d mc ms) {index ci k : Nat} {ty : FieldType} (hf : FL own index ci k) (hp : FP ci k false ty) (hd : decode cc pc = .ok (.putfield index, 3)) {a : Nat} {fs : List Value} {v : Value} (q0 : Nat) (he : ws[q0]? = some (a, .inr (ci, fs))) (hn : narrow ty v = v) (hfit : fits ty v = true) (hl : k < fs.length) (ws' : va_W) (hw : ws.set q0 (a, .inr (ci, fs.set k v)) = ws') (kk : Go E Q nL cells slots (pc + 3) lv st ws') : Go E Q nL cells slots pc lv (v :: .ref a :: st) ws := by
  obtain ⟨p, l, e, R, s, m, args, below, meth, c, D, A⟩ := E
  obtain ⟨hx, hb, hml, hown, hts, hK, -⟩ := hE
  obtain ⟨C, T, N, hc, hk, hin, hlk⟩ := hf
  obtain ⟨C', T', N', ty0, hc', hty, hnm, hfin, hpd⟩ := hp
  rw [hc] at hc'
  cases hc'
  subst hw
  intro H locs ls hP hD hS hl0
  exact va_put hx hb hts hin ty0 hty hnm hown hK hP hD hS q0 he hc k hk (hts _ hlk) (fun _ h9 => h9) hfin hpd hn hfit hl hd (fun H1 locs1 hP hD hS => kk H1 locs1 ls hP hD hS hl0)
theorem g_putF (hE : CxOk E cI cS own cc nL ret d mc ms) (hI : CxIn E) {index ci k : Nat} {ty : FieldType} (hf : FL own index ci k) (hp : FP ci k true ty) (ho : ∀ C T N, vwCl[ci]? = some (C, T, N) → (T k).1 = own) (hd : decode cc pc = .ok (.putfield index, 3)) {a : Nat} {fs : List Value} {v : Value} (q0 : Nat) (he : ws[q0]? = some (a, .inr (ci, fs))) (hn : narrow ty v = v) (hfit : fits ty v = true) (hl : k < fs.length) (ws' : va_W) (hw : ws.set q0 (a, .inr (ci, fs.set k v)) = ws') (kk : Go E Q nL cells slots (pc + 3) lv st ws') : Go E Q nL cells slots pc lv (v :: .ref a :: st) ws := by
  obtain ⟨p, l, e, R, s, m, args, below, meth, c, D, A⟩ := E
  obtain ⟨hx, hb, hml, hown, hts, hK, -⟩ := hE
  obtain ⟨C, T, N, hc, hk, hin, hlk⟩ := hf
  obtain ⟨C', T', N', ty0, hc', hty, hnm, hfin, hpd⟩ := hp
  rw [hc] at hc'
  cases hc'
  subst hw
  intro H locs ls hP hD hS hl0
  exact va_putF hx hb hts hin ty0 hty hnm hown hK hP hD hS q0 he hc k hk (hts _ hlk) (fun _ h9 => h9) hfin hI (ho _ _ _ hc) hpd hn hfit hl hd (fun H1 locs1 hP hD hS => kk H1 locs1 ls hP hD hS hl0)
theorem g_iald (hE : CxOk E cI cS own cc nL ret d mc ms) (hd : decode cc pc = .ok (.iaload, 1)) {a n : Nat} {f : Nat → Int32} {i : Int32} (q0 : Nat) (ha : ws[q0]? = some (a, .inl (cI, n, .inl f))) (hin : vp_in i n) (kk : Go E Q nL cells slots (pc + 1) lv (.int (f i.toNatClampNeg) :: st) ws) : Go E Q nL cells slots pc lv (.int i :: .ref a :: st) ws := by
  obtain ⟨p, l, e, R, s, m, args, below, meth, c, D, A⟩ := E
  obtain ⟨hx, hb, hml, hown, hts, hK, -⟩ := hE
  intro H locs ls hP hD hS hl
  exact va_iald hx hb hK hP q0 0 ha rfl hin hd (kk H locs ls hP hD hS hl)
theorem g_iast (hE : CxOk E cI cS own cc nL ret d mc ms) (hd : decode cc pc = .ok (.iastore, 1)) {a n : Nat} {f : Nat → Int32} {i x : Int32} (q0 : Nat) (ha : ws[q0]? = some (a, .inl (cI, n, .inl f))) (hin : vp_in i n) (ws' : va_W) (hw : ws.set q0 (a, .inl (cI, n, .inl (upd f i.toNatClampNeg x))) = ws') (kk : Go E Q nL cells slots (pc + 1) lv st ws') : Go E Q nL cells slots pc lv (.int x :: .int i :: .ref a :: st) ws := by
  obtain ⟨p, l, e, R, s, m, args, below, meth, c, D, A⟩ := E
  obtain ⟨hx, hb, hml, hown, hts, hK, -⟩ := hE
  subst hw
  intro H locs ls hP hD hS hl
  exact va_iast hx hb hK hP hD hS q0 0 ha rfl hin hd (fun H1 locs1 hP hD hS => kk H1 locs1 ls hP hD hS hl)
theorem g_alen (hE : CxOk E cI cS own cc nL ret d mc ms) (hd : decode cc pc = .ok (.arraylength, 1)) {a n : Nat} {f : Nat → Int32} (q0 : Nat) (v : Int32) (ha : ws[q0]? = some (a, .inl (cI, n, .inl f))) (hv : Int32.ofNat n = v) (kk : Go E Q nL cells slots (pc + 1) lv (.int v :: st) ws) : Go E Q nL cells slots pc lv (.ref a :: st) ws := by
  obtain ⟨p, l, e, R, s, m, args, below, meth, c, D, A⟩ := E
  obtain ⟨hx, hb, hml, hown, hts, hK, -⟩ := hE
  intro H locs ls hP hD hS hl
  exact va_alen hx hb hK hP q0 0 ha rfl hv hd (kk H locs ls hP hD hS hl)
theorem g_alenq (hE : CxOk E cI cS own cc nL ret d mc ms) (hd : decode cc pc = .ok (.arraylength, 1)) {a n : Nat} {f : Nat → Option Nat} (q0 : Nat) (v : Int32) (ha : ws[q0]? = some (a, .inl (cS, n, .inr (.inr (.inr (.inr f)))))) (hv : Int32.ofNat n = v) (kk : Go E Q nL cells slots (pc + 1) lv (.int v :: st) ws) : Go E Q nL cells slots pc lv (.ref a :: st) ws := by
  obtain ⟨p, l, e, R, s, m, args, below, meth, c, D, A⟩ := E
  obtain ⟨hx, hb, hml, hown, hts, hK, -⟩ := hE
  intro H locs ls hP hD hS hl
  exact va_alen hx hb hK hP q0 1 ha rfl hv hd (kk H locs ls hP hD hS hl)
theorem g_aldq (hE : CxOk E cI cS own cc nL ret d mc ms) (hd : decode cc pc = .ok (.aaload, 1)) {a n : Nat} {f : Nat → Option Nat} {i : Int32} (q0 : Nat) (v : Value) (ha : ws[q0]? = some (a, .inl (cS, n, .inr (.inr (.inr (.inr f)))))) (hin : vp_in i n) (hv : va_rf (f i.toNatClampNeg) = v) (kk : Go E Q nL cells slots (pc + 1) lv (v :: st) ws) : Go E Q nL cells slots pc lv (.int i :: .ref a :: st) ws := by
  obtain ⟨p, l, e, R, s, m, args, below, meth, c, D, A⟩ := E
  obtain ⟨hx, hb, hml, hown, hts, hK, -⟩ := hE
  subst hv
  intro H locs ls hP hD hS hl
  exact va_aldq hx hb hK hP q0 1 ha rfl hin hd (kk H locs ls hP hD hS hl)
theorem g_astq (hE : CxOk E cI cS own cc nL ret d mc ms) (hd : decode cc pc = .ok (.aastore, 1)) {a n v : Nat} {vs : List Value} {f : Nat → Option Nat} {i : Int32} (q0 qk : Nat) (ha : ws[q0]? = some (a, .inl (cS, n, .inr (.inr (.inr (.inr f)))))) (hv : ws[qk]? = some (v, .inr (2, vs))) (hin : vp_in i n) (ws' : va_W) (hw : ws.set q0 (a, .inl (cS, n, .inr (.inr (.inr (.inr (va_up f i.toNatClampNeg (some v))))))) = ws') (kk : Go E Q nL cells slots (pc + 1) lv st ws') : Go E Q nL cells slots pc lv (.ref v :: .int i :: .ref a :: st) ws := by
  obtain ⟨p, l, e, R, s, m, args, below, meth, c, D, A⟩ := E
  obtain ⟨hx, hb, hml, hown, hts, hK, -⟩ := hE
  subst hw
  intro H locs ls hP hD hS hl
  exact va_astq hx hb hK hP hD hS q0 1 qk 2 ha rfl hv rfl hin hd (fun H1 locs1 hP hD hS => kk H1 locs1 ls hP hD hS hl)
theorem g_copy (hE : CxOk E cI cS own cc nL ret d mc ms) (h1' : 1 ≤ d) {index : Nat} (hlk : Cond.methodLink own index arraycopyName ∈ TB) (hnat : Cond.native arraycopyName ∈ TB) (hstat : Cond.static arraycopyName ∈ TB) (hini : Cond.initialized "java/lang/System" ∈ TB) (hd : decode cc pc = .ok (.invokestatic index, 3)) {a a0 n0 n1 : Nat} {f g : Nat → Int32} {sp dp n : Int32} (q0 q1 : Nat) (ha0 : ws[q0]? = some (a0, .inl (cI, n0, .inl f))) (ha1 : ws[q1]? = some (a, .inl (cI, n1, .inl g)))
    (h1 : ¬ sp < 0) (h2 : ¬ dp < 0) (h3 : ¬ n < 0) (h4 : sp.toNatClampNeg + n.toNatClampNeg ≤ n0) (h5 : dp.toNatClampNeg + n.toNatClampNeg ≤ n1) (hst : (st.map fun v => v.category).sum + (nativeFrameWords "java/lang/System" "arraycopy" 5 + 11) ≤ 64) (ws' : va_W) (hw : ws.set q1 (a, .inl (cI, n1, .inl (va_cpy f g sp.toNatClampNeg dp.toNatClampNeg n.toNatClampNeg))) = ws')
    (kk : Go E Q nL cells slots (pc + 3) lv st ws') : Go E Q nL cells slots pc lv (.int n :: .int dp :: .ref a :: .int sp :: .ref a0 :: st) ws := by
  obtain ⟨p, l, e, R, s, m, args, below, meth, c, D, A⟩ := E
  obtain ⟨hx, hb, hml, hown, hts, hK, hN, hA, hfr, hlo, -⟩ := hE
  subst hw
  intro H locs ls hP hD hS hl
  exact va_copyi hx hb (hml.trans hl.1.symm) hown (hts _ hlk) (hts _ hnat) (hts _ hstat) (hts _ hini) hK hP hD hS q0 q1 0 0 ha0 ha1 rfl rfl rfl h1 h2 h3 h4 h5 (fun _ _ => rfl) (by omega) (by omega) hd (fun H1 locs1 hP hD hS => kk H1 locs1 ls hP hD hS hl)
theorem g_min (hE : CxOk E cI cS own cc nL ret d mc ms) (h1' : 1 ≤ d) (hce : cells ≤ mc) (hsl : slots ≤ ms) {index : Nat} (hlk : Cond.methodLink own index Lib.Math.min.name ∈ TB) (hstat : Cond.static Lib.Math.min.name ∈ TB) (hini : Cond.initialized "java/lang/Math" ∈ TB) (hcode : Cond.code Lib.Math.min.name Lib.Math.min.code 2 (some .int) ∈ TB) (hd : decode cc pc = .ok (.invokestatic index, 3)) (hst : (st.map fun v => v.category).sum + 13 ≤ 64) {x y : Int32}
    (kk : Go E Q nL cells slots (pc + 3) lv (.int (if y < x then y else x) :: st) ws) : Go E Q nL cells slots pc lv (.int y :: .int x :: st) ws := by
  obtain ⟨p, l, e, R, s, m, args, below, meth, c, D, A⟩ := E
  obtain ⟨hx, hb, hml, hown, hts, hK, hN, hA, hfr, hlo, hmc, hms, -⟩ := hE
  intro H locs ls hP hD hS hl
  exact va_mmin hx hb (hml.trans hl.1.symm) hown (hts _ hlk) (hts _ hstat) (hts _ hini) (hts _ hcode) (by omega) (by omega) (by omega) (by omega) hd (kk H locs ls hP hD hS hl)
-- rows of the world
theorem g_perm (is : List Nat) (ws' : va_W) (hn : va_nd is = true) (hs : is.map (fun i => ws[i]?) = ws'.map some) (kk : Go E Q nL cells slots pc lv st ws') : Go E Q nL cells slots pc lv st ws := by
  obtain ⟨p, l, e, R, s, m, args, below, meth, c, D, A⟩ := E
  intro H locs ls hP hD hS hl
  refine kk H locs ls (hP.sub is ?_) (hD.sub is hn hs) hS hl
  have h2 := congrArg (List.filterMap id) hs
  simpa [List.filterMap_map, Function.comp_def] using h2
theorem g_locals (ks : List Nat) (lv' : List (Nat × Value)) (h : lv_pick lv ks = lv') (kk : Go E Q nL cells slots pc lv' st ws) : Go E Q nL cells slots pc lv st ws := by
  obtain ⟨p, l, e, R, s, m, args, below, meth, c, D, A⟩ := E
  intro H locs ls hP hD hS hl
  exact kk H locs ls hP hD hS (lv_sub hl ks h)
theorem g_widen {cells' slots' : Nat} (h1 : cells ≤ cells') (h2 : slots ≤ slots') (kk : Go E Q nL cells' slots' pc lv st ws) : Go E Q nL cells slots pc lv st ws := by
  obtain ⟨p, l, e, R, s, m, args, below, meth, c, D, A⟩ := E
  intro H locs ls hP hD hS hl
  exact W.widen h1 h2 (kk H locs ls hP hD hS hl)
/-- a world's cells may be spelt otherwise: same addresses, same cells -/
theorem g_world (ws' : va_W) (h : ws = ws') (kk : Go E Q nL cells slots pc lv st ws') : Go E Q nL cells slots pc lv st ws := h ▸ kk
-- ends
theorem g_iret {S : Type} {P : S → Prop} {val : S → Option Value} {wr : S → va_W} {ty : FieldType} {v : Int32} (hE : CxOk E cI cS own cc nL (some ty) d mc ms) (hQ : EndOk E Q cI cS mc ms P val wr) (hd : decode cc pc = .ok (.ireturn, 1)) (hn : narrow ty (.int v) = .int v) (u : S) (hv : val u = some (.int v)) (hw : wr u = ws) (hP : P u) : Go E Q nL mc ms pc lv [.int v] ws := by
  obtain ⟨p, l, e, R, s, m, args, below, meth, c, D, A⟩ := E
  obtain ⟨hx, hb, hml, hown, hts, hK, hN, hA, hfr, hlo, hmc, hms, hlocks, hr⟩ := hE
  have hQ : Q = MQ below (Qg cI cS D A P val wr) args s mc ms A := hQ
  subst hQ
  subst hw
  intro H locs ls hPw hD hS hl
  exact W.zret (free := A) hx hb hr hn (fun t ht hW => ⟨⟨u, by rw [hv], hP, by rw [ht]; exact hPw, hD⟩, hS.F ht⟩) hS.2.2 hd hlocks
theorem g_lret {S : Type} {P : S → Prop} {val : S → Option Value} {wr : S → va_W} {v : Int64} (hE : CxOk E cI cS own cc nL (some .long) d mc ms) (hQ : EndOk E Q cI cS mc ms P val wr) (hd : decode cc pc = .ok (.lreturn, 1)) (u : S) (hv : val u = some (.long v)) (hw : wr u = ws) (hP : P u) : Go E Q nL mc ms pc lv [.long v] ws := by
  obtain ⟨p, l, e, R, s, m, args, below, meth, c, D, A⟩ := E
  obtain ⟨hx, hb, hml, hown, hts, hK, hN, hA, hfr, hlo, hmc, hms, hlocks, hr⟩ := hE
  have hQ : Q = MQ below (Qg cI cS D A P val wr) args s mc ms A := hQ
  subst hQ
  subst hw
  intro H locs ls hPw hD hS hl
  exact W.lret (free := A) hx hb hr (fun t ht hW => ⟨⟨u, by rw [hv], hP, by rw [ht]; exact hPw, hD⟩, hS.F ht⟩) hS.2.2 hd hlocks
theorem g_vret {S : Type} {P : S → Prop} {val : S → Option Value} {wr : S → va_W} (hE : CxOk E cI cS own cc nL none d mc ms) (hQ : EndOk E Q cI cS mc ms P val wr) (hd : decode cc pc = .ok (.return_, 1)) (u : S) (hv : val u = none) (hw : wr u = ws) (hP : P u) : Go E Q nL mc ms pc lv [] ws := by
  obtain ⟨p, l, e, R, s, m, args, below, meth, c, D, A⟩ := E
  obtain ⟨hx, hb, hml, hown, hts, hK, hN, hA, hfr, hlo, hmc, hms, hlocks, hr⟩ := hE
  have hQ : Q = MQ below (Qg cI cS D A P val wr) args s mc ms A := hQ
  subst hQ
  subst hw
  intro H locs ls hPw hD hS hl
  exact W.vret (free := A) hx hb hr (fun t ht hW => ⟨⟨u, by rw [hv], hP, by rw [ht]; exact hPw, hD⟩, hS.F ht⟩) hS.2.2 hd hlocks
theorem g_aret {S : Type} {P : S → Prop} {val : S → Option Value} {wr : S → va_W} {rt : FieldType} {v : Value} (hE : CxOk E cI cS own cc nL (some rt) d mc ms) (hQ : EndOk E Q cI cS mc ms P val wr) (hd : decode cc pc = .ok (.areturn, 1)) (hrt : (∃ n, rt = .object n) ∨ ∃ t, rt = .array t) (hvv : v = .null ∨ ∃ a, v = .ref a) (u : S) (hv : val u = some v) (hw : wr u = ws) (hP : P u) : Go E Q nL mc ms pc lv [v] ws := by
  obtain ⟨p, l, e, R, s, m, args, below, meth, c, D, A⟩ := E
  obtain ⟨hx, hb, hml, hown, hts, hK, hN, hA, hfr, hlo, hmc, hms, hlocks, hr⟩ := hE
  have hQ : Q = MQ below (Qg cI cS D A P val wr) args s mc ms A := hQ
  subst hQ
  subst hw
  intro H locs ls hPw hD hS hl
  exact W.aret (free := A) hx hb hr hrt hvv (fun t ht hW => ⟨⟨u, by rw [hv], hP, by rw [ht]; exact hPw, hD⟩, hS.F ht⟩) hS.2.2 hd hlocks
end GO
end
section
/-! static facts of the system: printed by gen/facts.py -/
def MK (y : MethodName) (cc : ByteArray) (maxL : Nat) (ret : Option FieldType) (n : Nat) : Prop := Cond.code y cc maxL ret ∈ TB ∧ Cond.initialized y.cls ∈ TB ∧ (y.cls ≠ "java/lang/invoke/MethodHandle" ∧ y.cls ≠ "java/lang/invoke/VarHandle") ∧ (parseMethodDescriptor y.desc).map (fun d => d.parameters.length) = some n
def MV (C : String) (y : MethodName) : Prop := Cond.instanceMethod y ∈ TB ∧ Cond.selects C y y ∈ TB
theorem MK.par {y : MethodName} {cc : ByteArray} {maxL : Nat} {ret : Option FieldType} {n : Nat} (h : MK y cc maxL ret n) : ∀ sig, parseMethodDescriptor y.desc = some sig → n = sig.parameters.length := by
  intro sig hs
  have h2 := h.2.2.2
  rw [hs] at h2
  exact (Option.some.inj h2).symm
theorem in_X0 : ∀ w ∈ u_ws RX0 TX0 13, w ∈ TB := fun w h => List.mem_filter.mpr ⟨(show ∀ w ∈ u_ws RX0 TX0 13, w ∈ lw_tbl by decide +kernel) w h, (List.all_eq_true.mp (show (u_ws RX0 TX0 13).all goodWord = true by decide +kernel)) w h⟩
theorem in_X1 : ∀ w ∈ u_ws RX1 TX1 6, w ∈ TB := fun w h => List.mem_filter.mpr ⟨(show ∀ w ∈ u_ws RX1 TX1 6, w ∈ lw_tbl by decide +kernel) w h, (List.all_eq_true.mp (show (u_ws RX1 TX1 6).all goodWord = true by decide +kernel)) w h⟩
theorem in_X2 : ∀ w ∈ u_ws RX2 TX2 3, w ∈ TB := fun w h => List.mem_filter.mpr ⟨(show ∀ w ∈ u_ws RX2 TX2 3, w ∈ lw_tbl by decide +kernel) w h, (List.all_eq_true.mp (show (u_ws RX2 TX2 3).all goodWord = true by decide +kernel)) w h⟩
theorem in_X3 : ∀ w ∈ u_ws RX3 TX3 4, w ∈ TB := fun w h => List.mem_filter.mpr ⟨(show ∀ w ∈ u_ws RX3 TX3 4, w ∈ lw_tbl by decide +kernel) w h, (List.all_eq_true.mp (show (u_ws RX3 TX3 4).all goodWord = true by decide +kernel)) w h⟩
theorem in_X4 : ∀ w ∈ u_ws RX4 TX4 7, w ∈ TB := fun w h => List.mem_filter.mpr ⟨(show ∀ w ∈ u_ws RX4 TX4 7, w ∈ lw_tbl by decide +kernel) w h, (List.all_eq_true.mp (show (u_ws RX4 TX4 7).all goodWord = true by decide +kernel)) w h⟩
theorem in_X5 : ∀ w ∈ u_ws RX5 TX5 32, w ∈ TB := fun w h => List.mem_filter.mpr ⟨(show ∀ w ∈ u_ws RX5 TX5 32, w ∈ lw_tbl by decide +kernel) w h, (List.all_eq_true.mp (show (u_ws RX5 TX5 32).all goodWord = true by decide +kernel)) w h⟩
theorem fl_X4_10 : FL RX4 10 4 0 := ⟨RX4, TX4, 7, rfl, by decide, in_X4, (tb_mem 186 (by decide +kernel) (by decide +kernel))⟩
theorem fl_X4_16 : FL RX4 16 4 1 := ⟨RX4, TX4, 7, rfl, by decide, in_X4, (tb_mem 187 (by decide +kernel) (by decide +kernel))⟩
theorem fl_X4_19 : FL RX4 19 4 2 := ⟨RX4, TX4, 7, rfl, by decide, in_X4, (tb_mem 188 (by decide +kernel) (by decide +kernel))⟩
theorem fl_X4_22 : FL RX4 22 4 3 := ⟨RX4, TX4, 7, rfl, by decide, in_X4, (tb_mem 189 (by decide +kernel) (by decide +kernel))⟩
theorem fl_X4_29 : FL RX4 29 4 4 := ⟨RX4, TX4, 7, rfl, by decide, in_X4, (tb_mem 190 (by decide +kernel) (by decide +kernel))⟩
theorem fl_X4_36 : FL RX4 36 4 5 := ⟨RX4, TX4, 7, rfl, by decide, in_X4, (tb_mem 191 (by decide +kernel) (by decide +kernel))⟩
theorem fl_X4_42 : FL RX4 42 4 6 := ⟨RX4, TX4, 7, rfl, by decide, in_X4, (tb_mem 192 (by decide +kernel) (by decide +kernel))⟩
theorem fl_X4_51 : FL RX4 51 0 0 := ⟨RX0, TX0, 13, rfl, by decide, in_X0, (tb_mem 59 (by decide +kernel) (by decide +kernel))⟩
theorem fl_X4_63 : FL RX4 63 0 4 := ⟨RX0, TX0, 13, rfl, by decide, in_X0, (tb_mem 70 (by decide +kernel) (by decide +kernel))⟩
theorem fl_X4_71 : FL RX4 71 0 5 := ⟨RX0, TX0, 13, rfl, by decide, in_X0, (tb_mem 72 (by decide +kernel) (by decide +kernel))⟩
theorem fl_X4_74 : FL RX4 74 0 6 := ⟨RX0, TX0, 13, rfl, by decide, in_X0, (tb_mem 74 (by decide +kernel) (by decide +kernel))⟩
theorem fl_X4_78 : FL RX4 78 0 1 := ⟨RX0, TX0, 13, rfl, by decide, in_X0, (tb_mem 63 (by decide +kernel) (by decide +kernel))⟩
theorem fl_X4_88 : FL RX4 88 0 7 := ⟨RX0, TX0, 13, rfl, by decide, in_X0, (tb_mem 76 (by decide +kernel) (by decide +kernel))⟩
theorem fl_X4_95 : FL RX4 95 0 8 := ⟨RX0, TX0, 13, rfl, by decide, in_X0, (tb_mem 78 (by decide +kernel) (by decide +kernel))⟩
theorem fl_X4_98 : FL RX4 98 0 9 := ⟨RX0, TX0, 13, rfl, by decide, in_X0, (tb_mem 80 (by decide +kernel) (by decide +kernel))⟩
theorem fl_X4_101 : FL RX4 101 0 10 := ⟨RX0, TX0, 13, rfl, by decide, in_X0, (tb_mem 82 (by decide +kernel) (by decide +kernel))⟩
theorem fl_X4_108 : FL RX4 108 3 1 := ⟨RX3, TX3, 4, rfl, by decide, in_X3, (tb_mem 153 (by decide +kernel) (by decide +kernel))⟩
theorem fl_X4_119 : FL RX4 119 3 3 := ⟨RX3, TX3, 4, rfl, by decide, in_X3, (tb_mem 156 (by decide +kernel) (by decide +kernel))⟩
theorem fl_X4_125 : FL RX4 125 0 2 := ⟨RX0, TX0, 13, rfl, by decide, in_X0, (tb_mem 66 (by decide +kernel) (by decide +kernel))⟩
theorem fl_X4_145 : FL RX4 145 0 3 := ⟨RX0, TX0, 13, rfl, by decide, in_X0, (tb_mem 67 (by decide +kernel) (by decide +kernel))⟩
theorem fl_X4_161 : FL RX4 161 0 12 := ⟨RX0, TX0, 13, rfl, by decide, in_X0, (tb_mem 86 (by decide +kernel) (by decide +kernel))⟩
theorem fl_X4_170 : FL RX4 170 0 11 := ⟨RX0, TX0, 13, rfl, by decide, in_X0, (tb_mem 84 (by decide +kernel) (by decide +kernel))⟩
theorem fl_X4_197 : FL RX4 197 1 4 := ⟨RX1, TX1, 6, rfl, by decide, in_X1, (tb_mem 129 (by decide +kernel) (by decide +kernel))⟩
theorem fl_X4_200 : FL RX4 200 1 5 := ⟨RX1, TX1, 6, rfl, by decide, in_X1, (tb_mem 131 (by decide +kernel) (by decide +kernel))⟩
theorem fl_X4_212 : FL RX4 212 1 1 := ⟨RX1, TX1, 6, rfl, by decide, in_X1, (tb_mem 124 (by decide +kernel) (by decide +kernel))⟩
theorem fl_X4_247 : FL RX4 247 2 1 := ⟨RX2, TX2, 3, rfl, by decide, in_X2, (tb_mem 176 (by decide +kernel) (by decide +kernel))⟩
theorem fl_X4_250 : FL RX4 250 2 2 := ⟨RX2, TX2, 3, rfl, by decide, in_X2, (tb_mem 178 (by decide +kernel) (by decide +kernel))⟩
theorem fl_X4_257 : FL RX4 257 2 0 := ⟨RX2, TX2, 3, rfl, by decide, in_X2, (tb_mem 174 (by decide +kernel) (by decide +kernel))⟩
theorem fl_X4_273 : FL RX4 273 1 2 := ⟨RX1, TX1, 6, rfl, by decide, in_X1, (tb_mem 126 (by decide +kernel) (by decide +kernel))⟩
theorem fl_X4_276 : FL RX4 276 1 0 := ⟨RX1, TX1, 6, rfl, by decide, in_X1, (tb_mem 122 (by decide +kernel) (by decide +kernel))⟩
theorem fl_X0_9 : FL RX0 9 0 4 := ⟨RX0, TX0, 13, rfl, by decide, in_X0, (tb_mem 69 (by decide +kernel) (by decide +kernel))⟩
theorem fl_X0_15 : FL RX0 15 0 5 := ⟨RX0, TX0, 13, rfl, by decide, in_X0, (tb_mem 71 (by decide +kernel) (by decide +kernel))⟩
theorem fl_X0_18 : FL RX0 18 0 6 := ⟨RX0, TX0, 13, rfl, by decide, in_X0, (tb_mem 73 (by decide +kernel) (by decide +kernel))⟩
theorem fl_X0_21 : FL RX0 21 0 7 := ⟨RX0, TX0, 13, rfl, by decide, in_X0, (tb_mem 75 (by decide +kernel) (by decide +kernel))⟩
theorem fl_X0_24 : FL RX0 24 0 8 := ⟨RX0, TX0, 13, rfl, by decide, in_X0, (tb_mem 77 (by decide +kernel) (by decide +kernel))⟩
theorem fl_X0_27 : FL RX0 27 0 9 := ⟨RX0, TX0, 13, rfl, by decide, in_X0, (tb_mem 79 (by decide +kernel) (by decide +kernel))⟩
theorem fl_X0_30 : FL RX0 30 0 10 := ⟨RX0, TX0, 13, rfl, by decide, in_X0, (tb_mem 81 (by decide +kernel) (by decide +kernel))⟩
theorem fl_X0_33 : FL RX0 33 0 11 := ⟨RX0, TX0, 13, rfl, by decide, in_X0, (tb_mem 83 (by decide +kernel) (by decide +kernel))⟩
theorem fl_X0_36 : FL RX0 36 0 12 := ⟨RX0, TX0, 13, rfl, by decide, in_X0, (tb_mem 85 (by decide +kernel) (by decide +kernel))⟩
theorem fl_X0_39 : FL RX0 39 0 0 := ⟨RX0, TX0, 13, rfl, by decide, in_X0, (tb_mem 58 (by decide +kernel) (by decide +kernel))⟩
theorem fl_X0_43 : FL RX0 43 0 1 := ⟨RX0, TX0, 13, rfl, by decide, in_X0, (tb_mem 61 (by decide +kernel) (by decide +kernel))⟩
theorem fl_X0_46 : FL RX0 46 0 2 := ⟨RX0, TX0, 13, rfl, by decide, in_X0, (tb_mem 64 (by decide +kernel) (by decide +kernel))⟩
theorem fl_X0_71 : FL RX0 71 0 3 := ⟨RX0, TX0, 13, rfl, by decide, in_X0, (tb_mem 68 (by decide +kernel) (by decide +kernel))⟩
theorem fl_X1_9 : FL RX1 9 1 0 := ⟨RX1, TX1, 6, rfl, by decide, in_X1, (tb_mem 121 (by decide +kernel) (by decide +kernel))⟩
theorem fl_X1_15 : FL RX1 15 1 1 := ⟨RX1, TX1, 6, rfl, by decide, in_X1, (tb_mem 123 (by decide +kernel) (by decide +kernel))⟩
theorem fl_X1_18 : FL RX1 18 1 5 := ⟨RX1, TX1, 6, rfl, by decide, in_X1, (tb_mem 130 (by decide +kernel) (by decide +kernel))⟩
theorem fl_X1_22 : FL RX1 22 1 2 := ⟨RX1, TX1, 6, rfl, by decide, in_X1, (tb_mem 125 (by decide +kernel) (by decide +kernel))⟩
theorem fl_X1_25 : FL RX1 25 1 3 := ⟨RX1, TX1, 6, rfl, by decide, in_X1, (tb_mem 127 (by decide +kernel) (by decide +kernel))⟩
theorem fl_X1_28 : FL RX1 28 1 4 := ⟨RX1, TX1, 6, rfl, by decide, in_X1, (tb_mem 128 (by decide +kernel) (by decide +kernel))⟩
theorem fl_X2_9 : FL RX2 9 2 0 := ⟨RX2, TX2, 3, rfl, by decide, in_X2, (tb_mem 173 (by decide +kernel) (by decide +kernel))⟩
theorem fl_X2_15 : FL RX2 15 2 1 := ⟨RX2, TX2, 3, rfl, by decide, in_X2, (tb_mem 175 (by decide +kernel) (by decide +kernel))⟩
theorem fl_X2_25 : FL RX2 25 2 2 := ⟨RX2, TX2, 3, rfl, by decide, in_X2, (tb_mem 177 (by decide +kernel) (by decide +kernel))⟩
theorem fl_X3_9 : FL RX3 9 3 0 := ⟨RX3, TX3, 4, rfl, by decide, in_X3, (tb_mem 151 (by decide +kernel) (by decide +kernel))⟩
theorem fl_X3_15 : FL RX3 15 3 1 := ⟨RX3, TX3, 4, rfl, by decide, in_X3, (tb_mem 152 (by decide +kernel) (by decide +kernel))⟩
theorem fl_X3_26 : FL RX3 26 0 1 := ⟨RX0, TX0, 13, rfl, by decide, in_X0, (tb_mem 62 (by decide +kernel) (by decide +kernel))⟩
theorem fl_X3_52 : FL RX3 52 3 3 := ⟨RX3, TX3, 4, rfl, by decide, in_X3, (tb_mem 155 (by decide +kernel) (by decide +kernel))⟩
theorem fl_X3_58 : FL RX3 58 0 0 := ⟨RX0, TX0, 13, rfl, by decide, in_X0, (tb_mem 60 (by decide +kernel) (by decide +kernel))⟩
theorem fl_X3_65 : FL RX3 65 0 2 := ⟨RX0, TX0, 13, rfl, by decide, in_X0, (tb_mem 65 (by decide +kernel) (by decide +kernel))⟩
theorem fl_X3_82 : FL RX3 82 3 2 := ⟨RX3, TX3, 4, rfl, by decide, in_X3, (tb_mem 154 (by decide +kernel) (by decide +kernel))⟩
theorem fl_X5_7 : FL RX5 7 5 0 := ⟨RX5, TX5, 32, rfl, by decide, in_X5, (tb_mem 590 (by decide +kernel) (by decide +kernel))⟩
theorem fl_X5_13 : FL RX5 13 5 1 := ⟨RX5, TX5, 32, rfl, by decide, in_X5, (tb_mem 591 (by decide +kernel) (by decide +kernel))⟩
theorem fl_X5_16 : FL RX5 16 5 2 := ⟨RX5, TX5, 32, rfl, by decide, in_X5, (tb_mem 592 (by decide +kernel) (by decide +kernel))⟩
theorem fl_X5_19 : FL RX5 19 5 4 := ⟨RX5, TX5, 32, rfl, by decide, in_X5, (tb_mem 594 (by decide +kernel) (by decide +kernel))⟩
theorem fl_X5_22 : FL RX5 22 5 6 := ⟨RX5, TX5, 32, rfl, by decide, in_X5, (tb_mem 596 (by decide +kernel) (by decide +kernel))⟩
theorem fl_X5_25 : FL RX5 25 5 9 := ⟨RX5, TX5, 32, rfl, by decide, in_X5, (tb_mem 599 (by decide +kernel) (by decide +kernel))⟩
theorem fl_X5_28 : FL RX5 28 5 13 := ⟨RX5, TX5, 32, rfl, by decide, in_X5, (tb_mem 603 (by decide +kernel) (by decide +kernel))⟩
theorem fl_X5_31 : FL RX5 31 5 14 := ⟨RX5, TX5, 32, rfl, by decide, in_X5, (tb_mem 604 (by decide +kernel) (by decide +kernel))⟩
theorem fl_X5_34 : FL RX5 34 5 16 := ⟨RX5, TX5, 32, rfl, by decide, in_X5, (tb_mem 606 (by decide +kernel) (by decide +kernel))⟩
theorem fl_X5_37 : FL RX5 37 5 17 := ⟨RX5, TX5, 32, rfl, by decide, in_X5, (tb_mem 607 (by decide +kernel) (by decide +kernel))⟩
theorem fl_X5_40 : FL RX5 40 5 18 := ⟨RX5, TX5, 32, rfl, by decide, in_X5, (tb_mem 608 (by decide +kernel) (by decide +kernel))⟩
theorem fl_X5_43 : FL RX5 43 5 21 := ⟨RX5, TX5, 32, rfl, by decide, in_X5, (tb_mem 611 (by decide +kernel) (by decide +kernel))⟩
theorem fl_X5_46 : FL RX5 46 5 25 := ⟨RX5, TX5, 32, rfl, by decide, in_X5, (tb_mem 615 (by decide +kernel) (by decide +kernel))⟩
theorem fl_X5_49 : FL RX5 49 5 27 := ⟨RX5, TX5, 32, rfl, by decide, in_X5, (tb_mem 617 (by decide +kernel) (by decide +kernel))⟩
theorem fl_X5_52 : FL RX5 52 5 28 := ⟨RX5, TX5, 32, rfl, by decide, in_X5, (tb_mem 618 (by decide +kernel) (by decide +kernel))⟩
theorem fl_X5_55 : FL RX5 55 5 29 := ⟨RX5, TX5, 32, rfl, by decide, in_X5, (tb_mem 619 (by decide +kernel) (by decide +kernel))⟩
theorem fl_X5_58 : FL RX5 58 5 30 := ⟨RX5, TX5, 32, rfl, by decide, in_X5, (tb_mem 620 (by decide +kernel) (by decide +kernel))⟩
theorem fl_X5_61 : FL RX5 61 5 31 := ⟨RX5, TX5, 32, rfl, by decide, in_X5, (tb_mem 621 (by decide +kernel) (by decide +kernel))⟩
theorem fl_X5_64 : FL RX5 64 5 3 := ⟨RX5, TX5, 32, rfl, by decide, in_X5, (tb_mem 593 (by decide +kernel) (by decide +kernel))⟩
theorem fl_X5_72 : FL RX5 72 5 5 := ⟨RX5, TX5, 32, rfl, by decide, in_X5, (tb_mem 595 (by decide +kernel) (by decide +kernel))⟩
theorem fl_X5_102 : FL RX5 102 5 7 := ⟨RX5, TX5, 32, rfl, by decide, in_X5, (tb_mem 597 (by decide +kernel) (by decide +kernel))⟩
theorem fl_X5_105 : FL RX5 105 5 8 := ⟨RX5, TX5, 32, rfl, by decide, in_X5, (tb_mem 598 (by decide +kernel) (by decide +kernel))⟩
theorem fl_X5_116 : FL RX5 116 5 10 := ⟨RX5, TX5, 32, rfl, by decide, in_X5, (tb_mem 600 (by decide +kernel) (by decide +kernel))⟩
theorem fl_X5_119 : FL RX5 119 5 11 := ⟨RX5, TX5, 32, rfl, by decide, in_X5, (tb_mem 601 (by decide +kernel) (by decide +kernel))⟩
theorem fl_X5_145 : FL RX5 145 5 12 := ⟨RX5, TX5, 32, rfl, by decide, in_X5, (tb_mem 602 (by decide +kernel) (by decide +kernel))⟩
theorem fl_X5_164 : FL RX5 164 5 15 := ⟨RX5, TX5, 32, rfl, by decide, in_X5, (tb_mem 605 (by decide +kernel) (by decide +kernel))⟩
theorem fl_X5_167 : FL RX5 167 5 19 := ⟨RX5, TX5, 32, rfl, by decide, in_X5, (tb_mem 609 (by decide +kernel) (by decide +kernel))⟩
theorem fl_X5_170 : FL RX5 170 5 20 := ⟨RX5, TX5, 32, rfl, by decide, in_X5, (tb_mem 610 (by decide +kernel) (by decide +kernel))⟩
theorem fl_X5_208 : FL RX5 208 5 22 := ⟨RX5, TX5, 32, rfl, by decide, in_X5, (tb_mem 612 (by decide +kernel) (by decide +kernel))⟩
theorem fl_X5_211 : FL RX5 211 5 23 := ⟨RX5, TX5, 32, rfl, by decide, in_X5, (tb_mem 613 (by decide +kernel) (by decide +kernel))⟩
theorem fl_X5_214 : FL RX5 214 5 24 := ⟨RX5, TX5, 32, rfl, by decide, in_X5, (tb_mem 614 (by decide +kernel) (by decide +kernel))⟩
theorem fl_X5_250 : FL RX5 250 5 26 := ⟨RX5, TX5, 32, rfl, by decide, in_X5, (tb_mem 616 (by decide +kernel) (by decide +kernel))⟩
theorem fp_0_0 : FP 0 0 false .int := ⟨RX0, TX0, 13, tyX0, rfl, tyX0_ok, nmX0, rfl, by decide +kernel⟩
theorem fp_0_1 : FP 0 1 false .int := ⟨RX0, TX0, 13, tyX0, rfl, tyX0_ok, nmX0, rfl, by decide +kernel⟩
theorem fp_0_2 : FP 0 2 false .int := ⟨RX0, TX0, 13, tyX0, rfl, tyX0_ok, nmX0, rfl, by decide +kernel⟩
theorem fp_0_3 : FP 0 3 false .int := ⟨RX0, TX0, 13, tyX0, rfl, tyX0_ok, nmX0, rfl, by decide +kernel⟩
theorem fp_0_4 : FP 0 4 true (.array .int) := ⟨RX0, TX0, 13, tyX0, rfl, tyX0_ok, nmX0, rfl, by decide +kernel⟩
theorem fp_0_5 : FP 0 5 true (.array .int) := ⟨RX0, TX0, 13, tyX0, rfl, tyX0_ok, nmX0, rfl, by decide +kernel⟩
theorem fp_0_6 : FP 0 6 true (.array .int) := ⟨RX0, TX0, 13, tyX0, rfl, tyX0_ok, nmX0, rfl, by decide +kernel⟩
theorem fp_0_7 : FP 0 7 true (.array .int) := ⟨RX0, TX0, 13, tyX0, rfl, tyX0_ok, nmX0, rfl, by decide +kernel⟩
theorem fp_0_8 : FP 0 8 true (.array .int) := ⟨RX0, TX0, 13, tyX0, rfl, tyX0_ok, nmX0, rfl, by decide +kernel⟩
theorem fp_0_9 : FP 0 9 true (.array .int) := ⟨RX0, TX0, 13, tyX0, rfl, tyX0_ok, nmX0, rfl, by decide +kernel⟩
theorem fp_0_10 : FP 0 10 true (.array .int) := ⟨RX0, TX0, 13, tyX0, rfl, tyX0_ok, nmX0, rfl, by decide +kernel⟩
theorem fp_0_11 : FP 0 11 true (.array .int) := ⟨RX0, TX0, 13, tyX0, rfl, tyX0_ok, nmX0, rfl, by decide +kernel⟩
theorem fp_0_12 : FP 0 12 true (.array .int) := ⟨RX0, TX0, 13, tyX0, rfl, tyX0_ok, nmX0, rfl, by decide +kernel⟩
theorem fp_1_0 : FP 1 0 true (.array .int) := ⟨RX1, TX1, 6, tyX1, rfl, tyX1_ok, nmX1, rfl, by decide +kernel⟩
theorem fp_1_1 : FP 1 1 true (.array .int) := ⟨RX1, TX1, 6, tyX1, rfl, tyX1_ok, nmX1, rfl, by decide +kernel⟩
theorem fp_1_2 : FP 1 2 false .int := ⟨RX1, TX1, 6, tyX1, rfl, tyX1_ok, nmX1, rfl, by decide +kernel⟩
theorem fp_1_3 : FP 1 3 false .int := ⟨RX1, TX1, 6, tyX1, rfl, tyX1_ok, nmX1, rfl, by decide +kernel⟩
theorem fp_1_4 : FP 1 4 false .int := ⟨RX1, TX1, 6, tyX1, rfl, tyX1_ok, nmX1, rfl, by decide +kernel⟩
theorem fp_1_5 : FP 1 5 false .int := ⟨RX1, TX1, 6, tyX1, rfl, tyX1_ok, nmX1, rfl, by decide +kernel⟩
theorem fp_2_0 : FP 2 0 true (.array .int) := ⟨RX2, TX2, 3, tyX2, rfl, tyX2_ok, nmX2, rfl, by decide +kernel⟩
theorem fp_2_1 : FP 2 1 false .int := ⟨RX2, TX2, 3, tyX2, rfl, tyX2_ok, nmX2, rfl, by decide +kernel⟩
theorem fp_2_2 : FP 2 2 false .int := ⟨RX2, TX2, 3, tyX2, rfl, tyX2_ok, nmX2, rfl, by decide +kernel⟩
theorem fp_3_0 : FP 3 0 true (.array .int) := ⟨RX3, TX3, 4, tyX3, rfl, tyX3_ok, nmX3, rfl, by decide +kernel⟩
theorem fp_3_1 : FP 3 1 false .int := ⟨RX3, TX3, 4, tyX3, rfl, tyX3_ok, nmX3, rfl, by decide +kernel⟩
theorem fp_3_2 : FP 3 2 false .int := ⟨RX3, TX3, 4, tyX3, rfl, tyX3_ok, nmX3, rfl, by decide +kernel⟩
theorem fp_3_3 : FP 3 3 false .int := ⟨RX3, TX3, 4, tyX3, rfl, tyX3_ok, nmX3, rfl, by decide +kernel⟩
theorem fp_4_0 : FP 4 0 true (.object "SieveLoft$Mill") := ⟨RX4, TX4, 7, tyX4, rfl, tyX4_ok, nmX4, rfl, by decide +kernel⟩
theorem fp_4_1 : FP 4 1 true (.object "SieveLoft$Mill") := ⟨RX4, TX4, 7, tyX4, rfl, tyX4_ok, nmX4, rfl, by decide +kernel⟩
theorem fp_4_2 : FP 4 2 true (.object "SieveLoft$Mill") := ⟨RX4, TX4, 7, tyX4, rfl, tyX4_ok, nmX4, rfl, by decide +kernel⟩
theorem fp_4_3 : FP 4 3 false .boolean := ⟨RX4, TX4, 7, tyX4, rfl, tyX4_ok, nmX4, rfl, by decide +kernel⟩
theorem fp_4_4 : FP 4 4 true (.object "SieveLoft$Search") := ⟨RX4, TX4, 7, tyX4, rfl, tyX4_ok, nmX4, rfl, by decide +kernel⟩
theorem fp_4_5 : FP 4 5 true (.object "SieveLoft$Tape") := ⟨RX4, TX4, 7, tyX4, rfl, tyX4_ok, nmX4, rfl, by decide +kernel⟩
theorem fp_4_6 : FP 4 6 true (.array (.object "SieveLoft$Sheet")) := ⟨RX4, TX4, 7, tyX4, rfl, tyX4_ok, nmX4, rfl, by decide +kernel⟩
theorem fp_5_0 : FP 5 0 true (.array .int) := ⟨RX5, TX5, 32, tyX5, rfl, tyX5_ok, nmX5, rfl, by decide +kernel⟩
theorem fp_5_1 : FP 5 1 true (.array .int) := ⟨RX5, TX5, 32, tyX5, rfl, tyX5_ok, nmX5, rfl, by decide +kernel⟩
theorem fp_5_2 : FP 5 2 true (.array .int) := ⟨RX5, TX5, 32, tyX5, rfl, tyX5_ok, nmX5, rfl, by decide +kernel⟩
theorem fp_5_3 : FP 5 3 false .int := ⟨RX5, TX5, 32, tyX5, rfl, tyX5_ok, nmX5, rfl, by decide +kernel⟩
theorem fp_5_4 : FP 5 4 true (.array .int) := ⟨RX5, TX5, 32, tyX5, rfl, tyX5_ok, nmX5, rfl, by decide +kernel⟩
theorem fp_5_5 : FP 5 5 false .int := ⟨RX5, TX5, 32, tyX5, rfl, tyX5_ok, nmX5, rfl, by decide +kernel⟩
theorem fp_5_6 : FP 5 6 true (.array .int) := ⟨RX5, TX5, 32, tyX5, rfl, tyX5_ok, nmX5, rfl, by decide +kernel⟩
theorem fp_5_7 : FP 5 7 false .int := ⟨RX5, TX5, 32, tyX5, rfl, tyX5_ok, nmX5, rfl, by decide +kernel⟩
theorem fp_5_8 : FP 5 8 false .int := ⟨RX5, TX5, 32, tyX5, rfl, tyX5_ok, nmX5, rfl, by decide +kernel⟩
theorem fp_5_9 : FP 5 9 true (.array .int) := ⟨RX5, TX5, 32, tyX5, rfl, tyX5_ok, nmX5, rfl, by decide +kernel⟩
theorem fp_5_10 : FP 5 10 false .int := ⟨RX5, TX5, 32, tyX5, rfl, tyX5_ok, nmX5, rfl, by decide +kernel⟩
theorem fp_5_11 : FP 5 11 false .int := ⟨RX5, TX5, 32, tyX5, rfl, tyX5_ok, nmX5, rfl, by decide +kernel⟩
theorem fp_5_12 : FP 5 12 false .int := ⟨RX5, TX5, 32, tyX5, rfl, tyX5_ok, nmX5, rfl, by decide +kernel⟩
theorem fp_5_13 : FP 5 13 true (.array .int) := ⟨RX5, TX5, 32, tyX5, rfl, tyX5_ok, nmX5, rfl, by decide +kernel⟩
theorem fp_5_14 : FP 5 14 true (.array .int) := ⟨RX5, TX5, 32, tyX5, rfl, tyX5_ok, nmX5, rfl, by decide +kernel⟩
theorem fp_5_15 : FP 5 15 false .int := ⟨RX5, TX5, 32, tyX5, rfl, tyX5_ok, nmX5, rfl, by decide +kernel⟩
theorem fp_5_16 : FP 5 16 true (.array .int) := ⟨RX5, TX5, 32, tyX5, rfl, tyX5_ok, nmX5, rfl, by decide +kernel⟩
theorem fp_5_17 : FP 5 17 true (.array .int) := ⟨RX5, TX5, 32, tyX5, rfl, tyX5_ok, nmX5, rfl, by decide +kernel⟩
theorem fp_5_18 : FP 5 18 true (.array .int) := ⟨RX5, TX5, 32, tyX5, rfl, tyX5_ok, nmX5, rfl, by decide +kernel⟩
theorem fp_5_19 : FP 5 19 false .int := ⟨RX5, TX5, 32, tyX5, rfl, tyX5_ok, nmX5, rfl, by decide +kernel⟩
theorem fp_5_20 : FP 5 20 false .int := ⟨RX5, TX5, 32, tyX5, rfl, tyX5_ok, nmX5, rfl, by decide +kernel⟩
theorem fp_5_21 : FP 5 21 true (.array .int) := ⟨RX5, TX5, 32, tyX5, rfl, tyX5_ok, nmX5, rfl, by decide +kernel⟩
theorem fp_5_22 : FP 5 22 false .int := ⟨RX5, TX5, 32, tyX5, rfl, tyX5_ok, nmX5, rfl, by decide +kernel⟩
theorem fp_5_23 : FP 5 23 false .int := ⟨RX5, TX5, 32, tyX5, rfl, tyX5_ok, nmX5, rfl, by decide +kernel⟩
theorem fp_5_24 : FP 5 24 false .int := ⟨RX5, TX5, 32, tyX5, rfl, tyX5_ok, nmX5, rfl, by decide +kernel⟩
theorem fp_5_25 : FP 5 25 true (.array .int) := ⟨RX5, TX5, 32, tyX5, rfl, tyX5_ok, nmX5, rfl, by decide +kernel⟩
theorem fp_5_26 : FP 5 26 false .boolean := ⟨RX5, TX5, 32, tyX5, rfl, tyX5_ok, nmX5, rfl, by decide +kernel⟩
theorem fp_5_27 : FP 5 27 true (.array .int) := ⟨RX5, TX5, 32, tyX5, rfl, tyX5_ok, nmX5, rfl, by decide +kernel⟩
theorem fp_5_28 : FP 5 28 true (.array .int) := ⟨RX5, TX5, 32, tyX5, rfl, tyX5_ok, nmX5, rfl, by decide +kernel⟩
theorem fp_5_29 : FP 5 29 true (.array .int) := ⟨RX5, TX5, 32, tyX5, rfl, tyX5_ok, nmX5, rfl, by decide +kernel⟩
theorem fp_5_30 : FP 5 30 true (.array .int) := ⟨RX5, TX5, 32, tyX5, rfl, tyX5_ok, nmX5, rfl, by decide +kernel⟩
theorem fp_5_31 : FP 5 31 true (.array .int) := ⟨RX5, TX5, 32, tyX5, rfl, tyX5_ok, nmX5, rfl, by decide +kernel⟩
theorem mk_X4_init : MK yX4_init cX4_init 2 none 0 := ⟨(tb_mem 48 (by decide +kernel) (by decide +kernel)), (tb_mem 35 (by decide +kernel) (by decide +kernel)), ⟨by decide +kernel, by decide +kernel⟩, by decide +kernel⟩
theorem im_X4_init : Cond.instanceMethod yX4_init ∈ TB := (tb_mem 47 (by decide +kernel) (by decide +kernel))
theorem mk_X0_init : MK yX0_init cX0_init 1 none 0 := ⟨(tb_mem 56 (by decide +kernel) (by decide +kernel)), (tb_mem 36 (by decide +kernel) (by decide +kernel)), ⟨by decide +kernel, by decide +kernel⟩, by decide +kernel⟩
theorem im_X0_init : Cond.instanceMethod yX0_init ∈ TB := (tb_mem 55 (by decide +kernel) (by decide +kernel))
theorem mk_X1_init : MK yX1_init cX1_init 1 none 0 := ⟨(tb_mem 119 (by decide +kernel) (by decide +kernel)), (tb_mem 37 (by decide +kernel) (by decide +kernel)), ⟨by decide +kernel, by decide +kernel⟩, by decide +kernel⟩
theorem im_X1_init : Cond.instanceMethod yX1_init ∈ TB := (tb_mem 118 (by decide +kernel) (by decide +kernel))
theorem mk_X3_init : MK yX3_init cX3_init 1 none 0 := ⟨(tb_mem 149 (by decide +kernel) (by decide +kernel)), (tb_mem 38 (by decide +kernel) (by decide +kernel)), ⟨by decide +kernel, by decide +kernel⟩, by decide +kernel⟩
theorem im_X3_init : Cond.instanceMethod yX3_init ∈ TB := (tb_mem 148 (by decide +kernel) (by decide +kernel))
theorem mk_X2_init : MK yX2_init cX2_init 1 none 0 := ⟨(tb_mem 171 (by decide +kernel) (by decide +kernel)), (tb_mem 39 (by decide +kernel) (by decide +kernel)), ⟨by decide +kernel, by decide +kernel⟩, by decide +kernel⟩
theorem im_X2_init : Cond.instanceMethod yX2_init ∈ TB := (tb_mem 170 (by decide +kernel) (by decide +kernel))
theorem mk_X4_grain : MK yX4_grain cX4_grain 4 (some .int) 3 := ⟨(tb_mem 211 (by decide +kernel) (by decide +kernel)), (tb_mem 35 (by decide +kernel) (by decide +kernel)), ⟨by decide +kernel, by decide +kernel⟩, by decide +kernel⟩
theorem mv_X4_grain : MV RX4 yX4_grain := ⟨(tb_mem 209 (by decide +kernel) (by decide +kernel)), (tb_mem 210 (by decide +kernel) (by decide +kernel))⟩
theorem mk_X4_within : MK yX4_within cX4_within 3 (some .boolean) 3 := ⟨(tb_mem 214 (by decide +kernel) (by decide +kernel)), (tb_mem 35 (by decide +kernel) (by decide +kernel)), ⟨by decide +kernel, by decide +kernel⟩, by decide +kernel⟩
theorem st_X4_within : Cond.static yX4_within ∈ TB := (tb_mem 213 (by decide +kernel) (by decide +kernel))
theorem mk_X0_addGrain : MK yX0_addGrain cX0_addGrain 4 (some .int) 3 := ⟨(tb_mem 218 (by decide +kernel) (by decide +kernel)), (tb_mem 36 (by decide +kernel) (by decide +kernel)), ⟨by decide +kernel, by decide +kernel⟩, by decide +kernel⟩
theorem mv_X0_addGrain : MV RX0 yX0_addGrain := ⟨(tb_mem 216 (by decide +kernel) (by decide +kernel)), (tb_mem 217 (by decide +kernel) (by decide +kernel))⟩
theorem mk_X4_put : MK yX4_put cX4_put 3 none 3 := ⟨(tb_mem 221 (by decide +kernel) (by decide +kernel)), (tb_mem 35 (by decide +kernel) (by decide +kernel)), ⟨by decide +kernel, by decide +kernel⟩, by decide +kernel⟩
theorem st_X4_put : Cond.static yX4_put ∈ TB := (tb_mem 220 (by decide +kernel) (by decide +kernel))
theorem mk_X4_set : MK yX4_set cX4_set 4 (some .int) 3 := ⟨(tb_mem 225 (by decide +kernel) (by decide +kernel)), (tb_mem 35 (by decide +kernel) (by decide +kernel)), ⟨by decide +kernel, by decide +kernel⟩, by decide +kernel⟩
theorem mv_X4_set : MV RX4 yX4_set := ⟨(tb_mem 223 (by decide +kernel) (by decide +kernel)), (tb_mem 224 (by decide +kernel) (by decide +kernel))⟩
theorem mk_X0_hasGrain : MK yX0_hasGrain cX0_hasGrain 2 (some .boolean) 1 := ⟨(tb_mem 229 (by decide +kernel) (by decide +kernel)), (tb_mem 36 (by decide +kernel) (by decide +kernel)), ⟨by decide +kernel, by decide +kernel⟩, by decide +kernel⟩
theorem mv_X0_hasGrain : MV RX0 yX0_hasGrain := ⟨(tb_mem 227 (by decide +kernel) (by decide +kernel)), (tb_mem 228 (by decide +kernel) (by decide +kernel))⟩
theorem mk_X4_exchange : MK yX4_exchange cX4_exchange 4 (some .int) 3 := ⟨(tb_mem 232 (by decide +kernel) (by decide +kernel)), (tb_mem 35 (by decide +kernel) (by decide +kernel)), ⟨by decide +kernel, by decide +kernel⟩, by decide +kernel⟩
theorem st_X4_exchange : Cond.static yX4_exchange ∈ TB := (tb_mem 231 (by decide +kernel) (by decide +kernel))
theorem mk_X4_at : MK yX4_at cX4_at 2 (some .int) 2 := ⟨(tb_mem 235 (by decide +kernel) (by decide +kernel)), (tb_mem 35 (by decide +kernel) (by decide +kernel)), ⟨by decide +kernel, by decide +kernel⟩, by decide +kernel⟩
theorem st_X4_at : Cond.static yX4_at ∈ TB := (tb_mem 234 (by decide +kernel) (by decide +kernel))
theorem mk_X4_sieve : MK yX4_sieve cX4_sieve 5 (some .int) 4 := ⟨(tb_mem 240 (by decide +kernel) (by decide +kernel)), (tb_mem 35 (by decide +kernel) (by decide +kernel)), ⟨by decide +kernel, by decide +kernel⟩, by decide +kernel⟩
theorem mv_X4_sieve : MV RX4 yX4_sieve := ⟨(tb_mem 238 (by decide +kernel) (by decide +kernel)), (tb_mem 239 (by decide +kernel) (by decide +kernel))⟩
theorem mk_X0_addSieve : MK yX0_addSieve cX0_addSieve 5 (some .int) 4 := ⟨(tb_mem 245 (by decide +kernel) (by decide +kernel)), (tb_mem 36 (by decide +kernel) (by decide +kernel)), ⟨by decide +kernel, by decide +kernel⟩, by decide +kernel⟩
theorem mv_X0_addSieve : MV RX0 yX0_addSieve := ⟨(tb_mem 243 (by decide +kernel) (by decide +kernel)), (tb_mem 244 (by decide +kernel) (by decide +kernel))⟩
theorem mk_X4_told : MK yX4_told cX4_told 3 (some .int) 2 := ⟨(tb_mem 249 (by decide +kernel) (by decide +kernel)), (tb_mem 35 (by decide +kernel) (by decide +kernel)), ⟨by decide +kernel, by decide +kernel⟩, by decide +kernel⟩
theorem mv_X4_told : MV RX4 yX4_told := ⟨(tb_mem 247 (by decide +kernel) (by decide +kernel)), (tb_mem 248 (by decide +kernel) (by decide +kernel))⟩
theorem mk_X0_hasSieve : MK yX0_hasSieve cX0_hasSieve 2 (some .boolean) 1 := ⟨(tb_mem 253 (by decide +kernel) (by decide +kernel)), (tb_mem 36 (by decide +kernel) (by decide +kernel)), ⟨by decide +kernel, by decide +kernel⟩, by decide +kernel⟩
theorem mv_X0_hasSieve : MV RX0 yX0_hasSieve := ⟨(tb_mem 251 (by decide +kernel) (by decide +kernel)), (tb_mem 252 (by decide +kernel) (by decide +kernel))⟩
theorem mk_X4_mend : MK yX4_mend cX4_mend 3 (some .int) 2 := ⟨(tb_mem 257 (by decide +kernel) (by decide +kernel)), (tb_mem 35 (by decide +kernel) (by decide +kernel)), ⟨by decide +kernel, by decide +kernel⟩, by decide +kernel⟩
theorem mv_X4_mend : MV RX4 yX4_mend := ⟨(tb_mem 255 (by decide +kernel) (by decide +kernel)), (tb_mem 256 (by decide +kernel) (by decide +kernel))⟩
theorem mk_X4_type : MK yX4_type cX4_type 5 (some .int) 2 := ⟨(tb_mem 261 (by decide +kernel) (by decide +kernel)), (tb_mem 35 (by decide +kernel) (by decide +kernel)), ⟨by decide +kernel, by decide +kernel⟩, by decide +kernel⟩
theorem mv_X4_type : MV RX4 yX4_type := ⟨(tb_mem 259 (by decide +kernel) (by decide +kernel)), (tb_mem 260 (by decide +kernel) (by decide +kernel))⟩
theorem mk_X4_byteOf : MK yX4_byteOf cX4_byteOf 3 (some .int) 2 := ⟨(tb_mem 264 (by decide +kernel) (by decide +kernel)), (tb_mem 35 (by decide +kernel) (by decide +kernel)), ⟨by decide +kernel, by decide +kernel⟩, by decide +kernel⟩
theorem st_X4_byteOf : Cond.static yX4_byteOf ∈ TB := (tb_mem 263 (by decide +kernel) (by decide +kernel))
theorem mk_X3_append : MK yX3_append cX3_append 2 none 1 := ⟨(tb_mem 268 (by decide +kernel) (by decide +kernel)), (tb_mem 38 (by decide +kernel) (by decide +kernel)), ⟨by decide +kernel, by decide +kernel⟩, by decide +kernel⟩
theorem mv_X3_append : MV RX3 yX3_append := ⟨(tb_mem 266 (by decide +kernel) (by decide +kernel)), (tb_mem 267 (by decide +kernel) (by decide +kernel))⟩
theorem mk_X4_loft : MK yX4_loft cX4_loft 1 (some .int) 0 := ⟨(tb_mem 273 (by decide +kernel) (by decide +kernel)), (tb_mem 35 (by decide +kernel) (by decide +kernel)), ⟨by decide +kernel, by decide +kernel⟩, by decide +kernel⟩
theorem mv_X4_loft : MV RX4 yX4_loft := ⟨(tb_mem 271 (by decide +kernel) (by decide +kernel)), (tb_mem 272 (by decide +kernel) (by decide +kernel))⟩
theorem mk_X3_readLoft : MK yX3_readLoft cX3_readLoft 8 none 1 := ⟨(tb_mem 277 (by decide +kernel) (by decide +kernel)), (tb_mem 38 (by decide +kernel) (by decide +kernel)), ⟨by decide +kernel, by decide +kernel⟩, by decide +kernel⟩
theorem mv_X3_readLoft : MV RX3 yX3_readLoft := ⟨(tb_mem 275 (by decide +kernel) (by decide +kernel)), (tb_mem 276 (by decide +kernel) (by decide +kernel))⟩
theorem mk_X3_begin : MK yX3_begin cX3_begin 1 none 0 := ⟨(tb_mem 281 (by decide +kernel) (by decide +kernel)), (tb_mem 38 (by decide +kernel) (by decide +kernel)), ⟨by decide +kernel, by decide +kernel⟩, by decide +kernel⟩
theorem mv_X3_begin : MV RX3 yX3_begin := ⟨(tb_mem 279 (by decide +kernel) (by decide +kernel)), (tb_mem 280 (by decide +kernel) (by decide +kernel))⟩
theorem mk_X3_readKind : MK yX3_readKind cX3_readKind 2 (some .int) 0 := ⟨(tb_mem 285 (by decide +kernel) (by decide +kernel)), (tb_mem 38 (by decide +kernel) (by decide +kernel)), ⟨by decide +kernel, by decide +kernel⟩, by decide +kernel⟩
theorem mv_X3_readKind : MV RX3 yX3_readKind := ⟨(tb_mem 283 (by decide +kernel) (by decide +kernel)), (tb_mem 284 (by decide +kernel) (by decide +kernel))⟩
theorem mk_X3_passes : MK yX3_passes cX3_passes 3 (some .boolean) 1 := ⟨(tb_mem 289 (by decide +kernel) (by decide +kernel)), (tb_mem 38 (by decide +kernel) (by decide +kernel)), ⟨by decide +kernel, by decide +kernel⟩, by decide +kernel⟩
theorem mv_X3_passes : MV RX3 yX3_passes := ⟨(tb_mem 287 (by decide +kernel) (by decide +kernel)), (tb_mem 288 (by decide +kernel) (by decide +kernel))⟩
theorem mk_X3_next : MK yX3_next cX3_next 1 (some .int) 0 := ⟨(tb_mem 293 (by decide +kernel) (by decide +kernel)), (tb_mem 38 (by decide +kernel) (by decide +kernel)), ⟨by decide +kernel, by decide +kernel⟩, by decide +kernel⟩
theorem mv_X3_next : MV RX3 yX3_next := ⟨(tb_mem 291 (by decide +kernel) (by decide +kernel)), (tb_mem 292 (by decide +kernel) (by decide +kernel))⟩
theorem mk_X3_blame : MK yX3_blame cX3_blame 2 none 1 := ⟨(tb_mem 298 (by decide +kernel) (by decide +kernel)), (tb_mem 38 (by decide +kernel) (by decide +kernel)), ⟨by decide +kernel, by decide +kernel⟩, by decide +kernel⟩
theorem mv_X3_blame : MV RX3 yX3_blame := ⟨(tb_mem 296 (by decide +kernel) (by decide +kernel)), (tb_mem 297 (by decide +kernel) (by decide +kernel))⟩
theorem mk_X3_readNumber : MK yX3_readNumber cX3_readNumber 5 (some .int) 2 := ⟨(tb_mem 302 (by decide +kernel) (by decide +kernel)), (tb_mem 38 (by decide +kernel) (by decide +kernel)), ⟨by decide +kernel, by decide +kernel⟩, by decide +kernel⟩
theorem mv_X3_readNumber : MV RX3 yX3_readNumber := ⟨(tb_mem 300 (by decide +kernel) (by decide +kernel)), (tb_mem 301 (by decide +kernel) (by decide +kernel))⟩
theorem mk_J9_min_7cf53 : MK yJ9_min_7cf53 cJ9_min_7cf53 2 (some .int) 2 := ⟨(tb_mem 307 (by decide +kernel) (by decide +kernel)), (tb_mem 41 (by decide +kernel) (by decide +kernel)), ⟨by decide +kernel, by decide +kernel⟩, by decide +kernel⟩
theorem st_J9_min_7cf53 : Cond.static yJ9_min_7cf53 ∈ TB := (tb_mem 306 (by decide +kernel) (by decide +kernel))
theorem mk_X3_readDigit : MK yX3_readDigit cX3_readDigit 3 (some .int) 1 := ⟨(tb_mem 312 (by decide +kernel) (by decide +kernel)), (tb_mem 38 (by decide +kernel) (by decide +kernel)), ⟨by decide +kernel, by decide +kernel⟩, by decide +kernel⟩
theorem mv_X3_readDigit : MV RX3 yX3_readDigit := ⟨(tb_mem 310 (by decide +kernel) (by decide +kernel)), (tb_mem 311 (by decide +kernel) (by decide +kernel))⟩
theorem mk_X3_end : MK yX3_end cX3_end 1 none 0 := ⟨(tb_mem 317 (by decide +kernel) (by decide +kernel)), (tb_mem 38 (by decide +kernel) (by decide +kernel)), ⟨by decide +kernel, by decide +kernel⟩, by decide +kernel⟩
theorem mv_X3_end : MV RX3 yX3_end := ⟨(tb_mem 315 (by decide +kernel) (by decide +kernel)), (tb_mem 316 (by decide +kernel) (by decide +kernel))⟩
theorem mk_X0_takeSieves : MK yX0_takeSieves cX0_takeSieves 2 none 1 := ⟨(tb_mem 321 (by decide +kernel) (by decide +kernel)), (tb_mem 36 (by decide +kernel) (by decide +kernel)), ⟨by decide +kernel, by decide +kernel⟩, by decide +kernel⟩
theorem mv_X0_takeSieves : MV RX0 yX0_takeSieves := ⟨(tb_mem 319 (by decide +kernel) (by decide +kernel)), (tb_mem 320 (by decide +kernel) (by decide +kernel))⟩
theorem mk_X4_copyAll : MK yX4_copyAll cX4_copyAll 3 none 2 := ⟨(tb_mem 324 (by decide +kernel) (by decide +kernel)), (tb_mem 35 (by decide +kernel) (by decide +kernel)), ⟨by decide +kernel, by decide +kernel⟩, by decide +kernel⟩
theorem st_X4_copyAll : Cond.static yX4_copyAll ∈ TB := (tb_mem 323 (by decide +kernel) (by decide +kernel))
theorem mk_X3_answerOr : MK yX3_answerOr cX3_answerOr 2 (some .int) 1 := ⟨(tb_mem 328 (by decide +kernel) (by decide +kernel)), (tb_mem 38 (by decide +kernel) (by decide +kernel)), ⟨by decide +kernel, by decide +kernel⟩, by decide +kernel⟩
theorem mv_X3_answerOr : MV RX3 yX3_answerOr := ⟨(tb_mem 326 (by decide +kernel) (by decide +kernel)), (tb_mem 327 (by decide +kernel) (by decide +kernel))⟩
theorem mk_X4_heap : MK yX4_heap cX4_heap 1 (some .int) 0 := ⟨(tb_mem 332 (by decide +kernel) (by decide +kernel)), (tb_mem 35 (by decide +kernel) (by decide +kernel)), ⟨by decide +kernel, by decide +kernel⟩, by decide +kernel⟩
theorem mv_X4_heap : MV RX4 yX4_heap := ⟨(tb_mem 330 (by decide +kernel) (by decide +kernel)), (tb_mem 331 (by decide +kernel) (by decide +kernel))⟩
theorem mk_X3_readHeap : MK yX3_readHeap cX3_readHeap 7 none 1 := ⟨(tb_mem 336 (by decide +kernel) (by decide +kernel)), (tb_mem 38 (by decide +kernel) (by decide +kernel)), ⟨by decide +kernel, by decide +kernel⟩, by decide +kernel⟩
theorem mv_X3_readHeap : MV RX3 yX3_readHeap := ⟨(tb_mem 334 (by decide +kernel) (by decide +kernel)), (tb_mem 335 (by decide +kernel) (by decide +kernel))⟩
theorem mk_X0_takeGrains : MK yX0_takeGrains cX0_takeGrains 2 none 1 := ⟨(tb_mem 341 (by decide +kernel) (by decide +kernel)), (tb_mem 36 (by decide +kernel) (by decide +kernel)), ⟨by decide +kernel, by decide +kernel⟩, by decide +kernel⟩
theorem mv_X0_takeGrains : MV RX0 yX0_takeGrains := ⟨(tb_mem 339 (by decide +kernel) (by decide +kernel)), (tb_mem 340 (by decide +kernel) (by decide +kernel))⟩
theorem mk_X4_row : MK yX4_row cX4_row 1 (some .int) 0 := ⟨(tb_mem 345 (by decide +kernel) (by decide +kernel)), (tb_mem 35 (by decide +kernel) (by decide +kernel)), ⟨by decide +kernel, by decide +kernel⟩, by decide +kernel⟩
theorem mv_X4_row : MV RX4 yX4_row := ⟨(tb_mem 343 (by decide +kernel) (by decide +kernel)), (tb_mem 344 (by decide +kernel) (by decide +kernel))⟩
theorem mk_X3_readRow : MK yX3_readRow cX3_readRow 6 none 2 := ⟨(tb_mem 349 (by decide +kernel) (by decide +kernel)), (tb_mem 38 (by decide +kernel) (by decide +kernel)), ⟨by decide +kernel, by decide +kernel⟩, by decide +kernel⟩
theorem mv_X3_readRow : MV RX3 yX3_readRow := ⟨(tb_mem 347 (by decide +kernel) (by decide +kernel)), (tb_mem 348 (by decide +kernel) (by decide +kernel))⟩
theorem mk_X0_isInRow : MK yX0_isInRow cX0_isInRow 3 (some .boolean) 1 := ⟨(tb_mem 353 (by decide +kernel) (by decide +kernel)), (tb_mem 36 (by decide +kernel) (by decide +kernel)), ⟨by decide +kernel, by decide +kernel⟩, by decide +kernel⟩
theorem mv_X0_isInRow : MV RX0 yX0_isInRow := ⟨(tb_mem 351 (by decide +kernel) (by decide +kernel)), (tb_mem 352 (by decide +kernel) (by decide +kernel))⟩
theorem mk_X0_addPlace : MK yX0_addPlace cX0_addPlace 2 none 1 := ⟨(tb_mem 358 (by decide +kernel) (by decide +kernel)), (tb_mem 36 (by decide +kernel) (by decide +kernel)), ⟨by decide +kernel, by decide +kernel⟩, by decide +kernel⟩
theorem mv_X0_addPlace : MV RX0 yX0_addPlace := ⟨(tb_mem 356 (by decide +kernel) (by decide +kernel)), (tb_mem 357 (by decide +kernel) (by decide +kernel))⟩
theorem mk_X0_takeRow : MK yX0_takeRow cX0_takeRow 2 none 1 := ⟨(tb_mem 362 (by decide +kernel) (by decide +kernel)), (tb_mem 36 (by decide +kernel) (by decide +kernel)), ⟨by decide +kernel, by decide +kernel⟩, by decide +kernel⟩
theorem mv_X0_takeRow : MV RX0 yX0_takeRow := ⟨(tb_mem 360 (by decide +kernel) (by decide +kernel)), (tb_mem 361 (by decide +kernel) (by decide +kernel))⟩
theorem mk_X4_count : MK yX4_count cX4_count 2 (some .int) 1 := ⟨(tb_mem 366 (by decide +kernel) (by decide +kernel)), (tb_mem 35 (by decide +kernel) (by decide +kernel)), ⟨by decide +kernel, by decide +kernel⟩, by decide +kernel⟩
theorem mv_X4_count : MV RX4 yX4_count := ⟨(tb_mem 364 (by decide +kernel) (by decide +kernel)), (tb_mem 365 (by decide +kernel) (by decide +kernel))⟩
theorem mk_X0_load : MK yX0_load cX0_load 3 (some .int) 0 := ⟨(tb_mem 370 (by decide +kernel) (by decide +kernel)), (tb_mem 36 (by decide +kernel) (by decide +kernel)), ⟨by decide +kernel, by decide +kernel⟩, by decide +kernel⟩
theorem mv_X0_load : MV RX0 yX0_load := ⟨(tb_mem 368 (by decide +kernel) (by decide +kernel)), (tb_mem 369 (by decide +kernel) (by decide +kernel))⟩
theorem mk_X0_amountOf : MK yX0_amountOf cX0_amountOf 4 (some .int) 1 := ⟨(tb_mem 374 (by decide +kernel) (by decide +kernel)), (tb_mem 36 (by decide +kernel) (by decide +kernel)), ⟨by decide +kernel, by decide +kernel⟩, by decide +kernel⟩
theorem mv_X0_amountOf : MV RX0 yX0_amountOf := ⟨(tb_mem 372 (by decide +kernel) (by decide +kernel)), (tb_mem 373 (by decide +kernel) (by decide +kernel))⟩
theorem mk_X4_found : MK yX4_found cX4_found 4 (some .int) 2 := ⟨(tb_mem 378 (by decide +kernel) (by decide +kernel)), (tb_mem 35 (by decide +kernel) (by decide +kernel)), ⟨by decide +kernel, by decide +kernel⟩, by decide +kernel⟩
theorem mv_X4_found : MV RX4 yX4_found := ⟨(tb_mem 376 (by decide +kernel) (by decide +kernel)), (tb_mem 377 (by decide +kernel) (by decide +kernel))⟩
theorem mk_X0_hasHeap : MK yX0_hasHeap cX0_hasHeap 2 (some .boolean) 1 := ⟨(tb_mem 382 (by decide +kernel) (by decide +kernel)), (tb_mem 36 (by decide +kernel) (by decide +kernel)), ⟨by decide +kernel, by decide +kernel⟩, by decide +kernel⟩
theorem mv_X0_hasHeap : MV RX0 yX0_hasHeap := ⟨(tb_mem 380 (by decide +kernel) (by decide +kernel)), (tb_mem 381 (by decide +kernel) (by decide +kernel))⟩
theorem mk_X0_spread : MK yX0_spread cX0_spread 4 none 0 := ⟨(tb_mem 386 (by decide +kernel) (by decide +kernel)), (tb_mem 36 (by decide +kernel) (by decide +kernel)), ⟨by decide +kernel, by decide +kernel⟩, by decide +kernel⟩
theorem mv_X0_spread : MV RX0 yX0_spread := ⟨(tb_mem 384 (by decide +kernel) (by decide +kernel)), (tb_mem 385 (by decide +kernel) (by decide +kernel))⟩
theorem mk_X0_falling : MK yX0_falling cX0_falling 4 (some .int) 2 := ⟨(tb_mem 391 (by decide +kernel) (by decide +kernel)), (tb_mem 36 (by decide +kernel) (by decide +kernel)), ⟨by decide +kernel, by decide +kernel⟩, by decide +kernel⟩
theorem mv_X0_falling : MV RX0 yX0_falling := ⟨(tb_mem 389 (by decide +kernel) (by decide +kernel)), (tb_mem 390 (by decide +kernel) (by decide +kernel))⟩
theorem mk_X0_tooBig : MK yX0_tooBig cX0_tooBig 5 (some .int) 2 := ⟨(tb_mem 395 (by decide +kernel) (by decide +kernel)), (tb_mem 36 (by decide +kernel) (by decide +kernel)), ⟨by decide +kernel, by decide +kernel⟩, by decide +kernel⟩
theorem mv_X0_tooBig : MV RX0 yX0_tooBig := ⟨(tb_mem 393 (by decide +kernel) (by decide +kernel)), (tb_mem 394 (by decide +kernel) (by decide +kernel))⟩
theorem mk_X0_letsFall : MK yX0_letsFall cX0_letsFall 3 (some .boolean) 2 := ⟨(tb_mem 399 (by decide +kernel) (by decide +kernel)), (tb_mem 36 (by decide +kernel) (by decide +kernel)), ⟨by decide +kernel, by decide +kernel⟩, by decide +kernel⟩
theorem mv_X0_letsFall : MV RX0 yX0_letsFall := ⟨(tb_mem 397 (by decide +kernel) (by decide +kernel)), (tb_mem 398 (by decide +kernel) (by decide +kernel))⟩
theorem mk_X0_isTooMuch : MK yX0_isTooMuch cX0_isTooMuch 3 (some .boolean) 2 := ⟨(tb_mem 403 (by decide +kernel) (by decide +kernel)), (tb_mem 36 (by decide +kernel) (by decide +kernel)), ⟨by decide +kernel, by decide +kernel⟩, by decide +kernel⟩
theorem mv_X0_isTooMuch : MV RX0 yX0_isTooMuch := ⟨(tb_mem 401 (by decide +kernel) (by decide +kernel)), (tb_mem 402 (by decide +kernel) (by decide +kernel))⟩
theorem mk_X0_worth : MK yX0_worth cX0_worth 4 (some .int) 1 := ⟨(tb_mem 408 (by decide +kernel) (by decide +kernel)), (tb_mem 36 (by decide +kernel) (by decide +kernel)), ⟨by decide +kernel, by decide +kernel⟩, by decide +kernel⟩
theorem mv_X0_worth : MV RX0 yX0_worth := ⟨(tb_mem 406 (by decide +kernel) (by decide +kernel)), (tb_mem 407 (by decide +kernel) (by decide +kernel))⟩
theorem mk_X4_where : MK yX4_where cX4_where 2 (some .int) 1 := ⟨(tb_mem 413 (by decide +kernel) (by decide +kernel)), (tb_mem 35 (by decide +kernel) (by decide +kernel)), ⟨by decide +kernel, by decide +kernel⟩, by decide +kernel⟩
theorem mv_X4_where : MV RX4 yX4_where := ⟨(tb_mem 411 (by decide +kernel) (by decide +kernel)), (tb_mem 412 (by decide +kernel) (by decide +kernel))⟩
theorem mk_X0_heapOf : MK yX0_heapOf cX0_heapOf 3 (some .int) 1 := ⟨(tb_mem 417 (by decide +kernel) (by decide +kernel)), (tb_mem 36 (by decide +kernel) (by decide +kernel)), ⟨by decide +kernel, by decide +kernel⟩, by decide +kernel⟩
theorem mv_X0_heapOf : MV RX0 yX0_heapOf := ⟨(tb_mem 415 (by decide +kernel) (by decide +kernel)), (tb_mem 416 (by decide +kernel) (by decide +kernel))⟩
theorem mk_X4_chokes : MK yX4_chokes cX4_chokes 5 (some .int) 0 := ⟨(tb_mem 421 (by decide +kernel) (by decide +kernel)), (tb_mem 35 (by decide +kernel) (by decide +kernel)), ⟨by decide +kernel, by decide +kernel⟩, by decide +kernel⟩
theorem mv_X4_chokes : MV RX4 yX4_chokes := ⟨(tb_mem 419 (by decide +kernel) (by decide +kernel)), (tb_mem 420 (by decide +kernel) (by decide +kernel))⟩
theorem mk_X4_shake : MK yX4_shake cX4_shake 1 (some .int) 0 := ⟨(tb_mem 428 (by decide +kernel) (by decide +kernel)), (tb_mem 35 (by decide +kernel) (by decide +kernel)), ⟨by decide +kernel, by decide +kernel⟩, by decide +kernel⟩
theorem mv_X4_shake : MV RX4 yX4_shake := ⟨(tb_mem 426 (by decide +kernel) (by decide +kernel)), (tb_mem 427 (by decide +kernel) (by decide +kernel))⟩
theorem mk_X0_shakeThrough : MK yX0_shakeThrough cX0_shakeThrough 8 (some .int) 2 := ⟨(tb_mem 432 (by decide +kernel) (by decide +kernel)), (tb_mem 36 (by decide +kernel) (by decide +kernel)), ⟨by decide +kernel, by decide +kernel⟩, by decide +kernel⟩
theorem mv_X0_shakeThrough : MV RX0 yX0_shakeThrough := ⟨(tb_mem 430 (by decide +kernel) (by decide +kernel)), (tb_mem 431 (by decide +kernel) (by decide +kernel))⟩
theorem mk_X0_widen : MK yX0_widen cX0_widen 3 none 1 := ⟨(tb_mem 437 (by decide +kernel) (by decide +kernel)), (tb_mem 36 (by decide +kernel) (by decide +kernel)), ⟨by decide +kernel, by decide +kernel⟩, by decide +kernel⟩
theorem mv_X0_widen : MV RX0 yX0_widen := ⟨(tb_mem 435 (by decide +kernel) (by decide +kernel)), (tb_mem 436 (by decide +kernel) (by decide +kernel))⟩
theorem mk_X4_lasts : MK yX4_lasts cX4_lasts 2 (some .int) 0 := ⟨(tb_mem 442 (by decide +kernel) (by decide +kernel)), (tb_mem 35 (by decide +kernel) (by decide +kernel)), ⟨by decide +kernel, by decide +kernel⟩, by decide +kernel⟩
theorem mv_X4_lasts : MV RX4 yX4_lasts := ⟨(tb_mem 440 (by decide +kernel) (by decide +kernel)), (tb_mem 441 (by decide +kernel) (by decide +kernel))⟩
theorem mk_X0_takeAll : MK yX0_takeAll cX0_takeAll 2 none 1 := ⟨(tb_mem 446 (by decide +kernel) (by decide +kernel)), (tb_mem 36 (by decide +kernel) (by decide +kernel)), ⟨by decide +kernel, by decide +kernel⟩, by decide +kernel⟩
theorem mv_X0_takeAll : MV RX0 yX0_takeAll := ⟨(tb_mem 444 (by decide +kernel) (by decide +kernel)), (tb_mem 445 (by decide +kernel) (by decide +kernel))⟩
theorem mk_X4_sameHeaps : MK yX4_sameHeaps cX4_sameHeaps 2 (some .boolean) 0 := ⟨(tb_mem 453 (by decide +kernel) (by decide +kernel)), (tb_mem 35 (by decide +kernel) (by decide +kernel)), ⟨by decide +kernel, by decide +kernel⟩, by decide +kernel⟩
theorem mv_X4_sameHeaps : MV RX4 yX4_sameHeaps := ⟨(tb_mem 452 (by decide +kernel) (by decide +kernel)), (tb_mem 0 (by decide +kernel) (by decide +kernel))⟩
theorem mk_X4_best : MK yX4_best cX4_best 3 (some .int) 2 := ⟨(tb_mem 457 (by decide +kernel) (by decide +kernel)), (tb_mem 35 (by decide +kernel) (by decide +kernel)), ⟨by decide +kernel, by decide +kernel⟩, by decide +kernel⟩
theorem mv_X4_best : MV RX4 yX4_best := ⟨(tb_mem 455 (by decide +kernel) (by decide +kernel)), (tb_mem 456 (by decide +kernel) (by decide +kernel))⟩
theorem mk_X4_seekBest : MK yX4_seekBest cX4_seekBest 2 none 1 := ⟨(tb_mem 461 (by decide +kernel) (by decide +kernel)), (tb_mem 35 (by decide +kernel) (by decide +kernel)), ⟨by decide +kernel, by decide +kernel⟩, by decide +kernel⟩
theorem mv_X4_seekBest : MV RX4 yX4_seekBest := ⟨(tb_mem 460 (by decide +kernel) (by decide +kernel)), (tb_mem 1 (by decide +kernel) (by decide +kernel))⟩
theorem mk_X1_begin : MK yX1_begin cX1_begin 3 none 2 := ⟨(tb_mem 465 (by decide +kernel) (by decide +kernel)), (tb_mem 37 (by decide +kernel) (by decide +kernel)), ⟨by decide +kernel, by decide +kernel⟩, by decide +kernel⟩
theorem mv_X1_begin : MV RX1 yX1_begin := ⟨(tb_mem 463 (by decide +kernel) (by decide +kernel)), (tb_mem 464 (by decide +kernel) (by decide +kernel))⟩
theorem mk_X4_tryBest : MK yX4_tryBest cX4_tryBest 8 none 5 := ⟨(tb_mem 468 (by decide +kernel) (by decide +kernel)), (tb_mem 35 (by decide +kernel) (by decide +kernel)), ⟨by decide +kernel, by decide +kernel⟩, by decide +kernel⟩
theorem st_X4_tryBest : Cond.static yX4_tryBest ∈ TB := (tb_mem 467 (by decide +kernel) (by decide +kernel))
theorem mk_X1_choose : MK yX1_choose cX1_choose 3 none 2 := ⟨(tb_mem 472 (by decide +kernel) (by decide +kernel)), (tb_mem 37 (by decide +kernel) (by decide +kernel)), ⟨by decide +kernel, by decide +kernel⟩, by decide +kernel⟩
theorem mv_X1_choose : MV RX1 yX1_choose := ⟨(tb_mem 470 (by decide +kernel) (by decide +kernel)), (tb_mem 471 (by decide +kernel) (by decide +kernel))⟩
theorem mk_X1_chosenAt : MK yX1_chosenAt cX1_chosenAt 2 (some .int) 1 := ⟨(tb_mem 477 (by decide +kernel) (by decide +kernel)), (tb_mem 37 (by decide +kernel) (by decide +kernel)), ⟨by decide +kernel, by decide +kernel⟩, by decide +kernel⟩
theorem mv_X1_chosenAt : MV RX1 yX1_chosenAt := ⟨(tb_mem 475 (by decide +kernel) (by decide +kernel)), (tb_mem 476 (by decide +kernel) (by decide +kernel))⟩
theorem mk_X4_parted : MK yX4_parted cX4_parted 3 (some .int) 2 := ⟨(tb_mem 482 (by decide +kernel) (by decide +kernel)), (tb_mem 35 (by decide +kernel) (by decide +kernel)), ⟨by decide +kernel, by decide +kernel⟩, by decide +kernel⟩
theorem mv_X4_parted : MV RX4 yX4_parted := ⟨(tb_mem 480 (by decide +kernel) (by decide +kernel)), (tb_mem 481 (by decide +kernel) (by decide +kernel))⟩
theorem mk_X4_tryParted : MK yX4_tryParted cX4_tryParted 6 none 4 := ⟨(tb_mem 485 (by decide +kernel) (by decide +kernel)), (tb_mem 35 (by decide +kernel) (by decide +kernel)), ⟨by decide +kernel, by decide +kernel⟩, by decide +kernel⟩
theorem st_X4_tryParted : Cond.static yX4_tryParted ∈ TB := (tb_mem 484 (by decide +kernel) (by decide +kernel))
theorem mk_X1_mixes : MK yX1_mixes cX1_mixes 2 (some .boolean) 1 := ⟨(tb_mem 489 (by decide +kernel) (by decide +kernel)), (tb_mem 37 (by decide +kernel) (by decide +kernel)), ⟨by decide +kernel, by decide +kernel⟩, by decide +kernel⟩
theorem mv_X1_mixes : MV RX1 yX1_mixes := ⟨(tb_mem 487 (by decide +kernel) (by decide +kernel)), (tb_mem 488 (by decide +kernel) (by decide +kernel))⟩
theorem mk_J6_bitCount_0f7a4 : MK yJ6_bitCount_0f7a4 cJ6_bitCount_0f7a4 1 (some .int) 1 := ⟨(tb_mem 492 (by decide +kernel) (by decide +kernel)), (tb_mem 42 (by decide +kernel) (by decide +kernel)), ⟨by decide +kernel, by decide +kernel⟩, by decide +kernel⟩
theorem st_J6_bitCount_0f7a4 : Cond.static yJ6_bitCount_0f7a4 ∈ TB := (tb_mem 491 (by decide +kernel) (by decide +kernel))
theorem mk_X4_season : MK yX4_season cX4_season 5 (some .int) 2 := ⟨(tb_mem 499 (by decide +kernel) (by decide +kernel)), (tb_mem 35 (by decide +kernel) (by decide +kernel)), ⟨by decide +kernel, by decide +kernel⟩, by decide +kernel⟩
theorem mv_X4_season : MV RX4 yX4_season := ⟨(tb_mem 497 (by decide +kernel) (by decide +kernel)), (tb_mem 498 (by decide +kernel) (by decide +kernel))⟩
theorem mk_X4_fits : MK yX4_fits cX4_fits 5 (some .long) 1 := ⟨(tb_mem 503 (by decide +kernel) (by decide +kernel)), (tb_mem 35 (by decide +kernel) (by decide +kernel)), ⟨by decide +kernel, by decide +kernel⟩, by decide +kernel⟩
theorem mv_X4_fits : MV RX4 yX4_fits := ⟨(tb_mem 501 (by decide +kernel) (by decide +kernel)), (tb_mem 502 (by decide +kernel) (by decide +kernel))⟩
theorem mk_X0_heapOfSize : MK yX0_heapOfSize cX0_heapOfSize 3 (some .int) 1 := ⟨(tb_mem 508 (by decide +kernel) (by decide +kernel)), (tb_mem 36 (by decide +kernel) (by decide +kernel)), ⟨by decide +kernel, by decide +kernel⟩, by decide +kernel⟩
theorem mv_X0_heapOfSize : MV RX0 yX0_heapOfSize := ⟨(tb_mem 506 (by decide +kernel) (by decide +kernel)), (tb_mem 507 (by decide +kernel) (by decide +kernel))⟩
theorem mk_X4_shares : MK yX4_shares cX4_shares 8 (some .int) 4 := ⟨(tb_mem 512 (by decide +kernel) (by decide +kernel)), (tb_mem 35 (by decide +kernel) (by decide +kernel)), ⟨by decide +kernel, by decide +kernel⟩, by decide +kernel⟩
theorem mv_X4_shares : MV RX4 yX4_shares := ⟨(tb_mem 510 (by decide +kernel) (by decide +kernel)), (tb_mem 511 (by decide +kernel) (by decide +kernel))⟩
theorem mk_X4_image : MK yX4_image cX4_image 1 (some .int) 0 := ⟨(tb_mem 517 (by decide +kernel) (by decide +kernel)), (tb_mem 35 (by decide +kernel) (by decide +kernel)), ⟨by decide +kernel, by decide +kernel⟩, by decide +kernel⟩
theorem mv_X4_image : MV RX4 yX4_image := ⟨(tb_mem 515 (by decide +kernel) (by decide +kernel)), (tb_mem 516 (by decide +kernel) (by decide +kernel))⟩
theorem mk_X4_restore : MK yX4_restore cX4_restore 1 (some .int) 0 := ⟨(tb_mem 521 (by decide +kernel) (by decide +kernel)), (tb_mem 35 (by decide +kernel) (by decide +kernel)), ⟨by decide +kernel, by decide +kernel⟩, by decide +kernel⟩
theorem mv_X4_restore : MV RX4 yX4_restore := ⟨(tb_mem 519 (by decide +kernel) (by decide +kernel)), (tb_mem 520 (by decide +kernel) (by decide +kernel))⟩
theorem mk_X4_meshes : MK yX4_meshes cX4_meshes 10 (some .long) 4 := ⟨(tb_mem 525 (by decide +kernel) (by decide +kernel)), (tb_mem 35 (by decide +kernel) (by decide +kernel)), ⟨by decide +kernel, by decide +kernel⟩, by decide +kernel⟩
theorem mv_X4_meshes : MV RX4 yX4_meshes := ⟨(tb_mem 523 (by decide +kernel) (by decide +kernel)), (tb_mem 524 (by decide +kernel) (by decide +kernel))⟩
theorem mk_X4_sheetAt : MK yX4_sheetAt cX4_sheetAt 2 (some (.object "SieveLoft$Sheet")) 1 := ⟨(tb_mem 529 (by decide +kernel) (by decide +kernel)), (tb_mem 35 (by decide +kernel) (by decide +kernel)), ⟨by decide +kernel, by decide +kernel⟩, by decide +kernel⟩
theorem mv_X4_sheetAt : MV RX4 yX4_sheetAt := ⟨(tb_mem 528 (by decide +kernel) (by decide +kernel)), (tb_mem 2 (by decide +kernel) (by decide +kernel))⟩
theorem mk_X4_isLane : MK yX4_isLane cX4_isLane 1 (some .boolean) 1 := ⟨(tb_mem 532 (by decide +kernel) (by decide +kernel)), (tb_mem 35 (by decide +kernel) (by decide +kernel)), ⟨by decide +kernel, by decide +kernel⟩, by decide +kernel⟩
theorem st_X4_isLane : Cond.static yX4_isLane ∈ TB := (tb_mem 531 (by decide +kernel) (by decide +kernel))
theorem mk_X2_refusal : MK yX2_refusal cX2_refusal 4 (some .int) 3 := ⟨(tb_mem 538 (by decide +kernel) (by decide +kernel)), (tb_mem 39 (by decide +kernel) (by decide +kernel)), ⟨by decide +kernel, by decide +kernel⟩, by decide +kernel⟩
theorem mv_X2_refusal : MV RX2 yX2_refusal := ⟨(tb_mem 536 (by decide +kernel) (by decide +kernel)), (tb_mem 537 (by decide +kernel) (by decide +kernel))⟩
theorem mk_X2_hasItems : MK yX2_hasItems cX2_hasItems 3 (some .boolean) 2 := ⟨(tb_mem 542 (by decide +kernel) (by decide +kernel)), (tb_mem 39 (by decide +kernel) (by decide +kernel)), ⟨by decide +kernel, by decide +kernel⟩, by decide +kernel⟩
theorem mv_X2_hasItems : MV RX2 yX2_hasItems := ⟨(tb_mem 540 (by decide +kernel) (by decide +kernel)), (tb_mem 541 (by decide +kernel) (by decide +kernel))⟩
theorem mk_X4_bearsOut : MK yX4_bearsOut cX4_bearsOut 5 (some .boolean) 3 := ⟨(tb_mem 545 (by decide +kernel) (by decide +kernel)), (tb_mem 35 (by decide +kernel) (by decide +kernel)), ⟨by decide +kernel, by decide +kernel⟩, by decide +kernel⟩
theorem st_X4_bearsOut : Cond.static yX4_bearsOut ∈ TB := (tb_mem 544 (by decide +kernel) (by decide +kernel))
theorem mk_X4_torn : MK yX4_torn cX4_torn 10 (some .int) 3 := ⟨(tb_mem 549 (by decide +kernel) (by decide +kernel)), (tb_mem 35 (by decide +kernel) (by decide +kernel)), ⟨by decide +kernel, by decide +kernel⟩, by decide +kernel⟩
theorem mv_X4_torn : MV RX4 yX4_torn := ⟨(tb_mem 547 (by decide +kernel) (by decide +kernel)), (tb_mem 548 (by decide +kernel) (by decide +kernel))⟩
theorem mk_X4_sheet : MK yX4_sheet cX4_sheet 5 (some .int) 3 := ⟨(tb_mem 553 (by decide +kernel) (by decide +kernel)), (tb_mem 35 (by decide +kernel) (by decide +kernel)), ⟨by decide +kernel, by decide +kernel⟩, by decide +kernel⟩
theorem mv_X4_sheet : MV RX4 yX4_sheet := ⟨(tb_mem 551 (by decide +kernel) (by decide +kernel)), (tb_mem 552 (by decide +kernel) (by decide +kernel))⟩
theorem mk_X2_renew : MK yX2_renew cX2_renew 4 none 2 := ⟨(tb_mem 557 (by decide +kernel) (by decide +kernel)), (tb_mem 39 (by decide +kernel) (by decide +kernel)), ⟨by decide +kernel, by decide +kernel⟩, by decide +kernel⟩
theorem mv_X2_renew : MV RX2 yX2_renew := ⟨(tb_mem 555 (by decide +kernel) (by decide +kernel)), (tb_mem 556 (by decide +kernel) (by decide +kernel))⟩
theorem mk_X4_drop : MK yX4_drop cX4_drop 4 (some .int) 1 := ⟨(tb_mem 562 (by decide +kernel) (by decide +kernel)), (tb_mem 35 (by decide +kernel) (by decide +kernel)), ⟨by decide +kernel, by decide +kernel⟩, by decide +kernel⟩
theorem mv_X4_drop : MV RX4 yX4_drop := ⟨(tb_mem 560 (by decide +kernel) (by decide +kernel)), (tb_mem 561 (by decide +kernel) (by decide +kernel))⟩
theorem mk_X4_item : MK yX4_item cX4_item 7 (some .int) 4 := ⟨(tb_mem 566 (by decide +kernel) (by decide +kernel)), (tb_mem 35 (by decide +kernel) (by decide +kernel)), ⟨by decide +kernel, by decide +kernel⟩, by decide +kernel⟩
theorem mv_X4_item : MV RX4 yX4_item := ⟨(tb_mem 564 (by decide +kernel) (by decide +kernel)), (tb_mem 565 (by decide +kernel) (by decide +kernel))⟩
theorem mk_X2_write : MK yX2_write cX2_write 3 none 2 := ⟨(tb_mem 570 (by decide +kernel) (by decide +kernel)), (tb_mem 39 (by decide +kernel) (by decide +kernel)), ⟨by decide +kernel, by decide +kernel⟩, by decide +kernel⟩
theorem mv_X2_write : MV RX2 yX2_write := ⟨(tb_mem 568 (by decide +kernel) (by decide +kernel)), (tb_mem 569 (by decide +kernel) (by decide +kernel))⟩
theorem mk_X4_film : MK yX4_film cX4_film 7 (some .int) 3 := ⟨(tb_mem 575 (by decide +kernel) (by decide +kernel)), (tb_mem 35 (by decide +kernel) (by decide +kernel)), ⟨by decide +kernel, by decide +kernel⟩, by decide +kernel⟩
theorem mv_X4_film : MV RX4 yX4_film := ⟨(tb_mem 573 (by decide +kernel) (by decide +kernel)), (tb_mem 574 (by decide +kernel) (by decide +kernel))⟩
theorem mk_X4_copy : MK yX4_copy cX4_copy 8 (some .int) 5 := ⟨(tb_mem 579 (by decide +kernel) (by decide +kernel)), (tb_mem 35 (by decide +kernel) (by decide +kernel)), ⟨by decide +kernel, by decide +kernel⟩, by decide +kernel⟩
theorem mv_X4_copy : MV RX4 yX4_copy := ⟨(tb_mem 577 (by decide +kernel) (by decide +kernel)), (tb_mem 578 (by decide +kernel) (by decide +kernel))⟩
theorem mk_X5_init : MK yX5_init cX5_init 2 none 0 := ⟨(tb_mem 588 (by decide +kernel) (by decide +kernel)), (tb_mem 40 (by decide +kernel) (by decide +kernel)), ⟨by decide +kernel, by decide +kernel⟩, by decide +kernel⟩
theorem im_X5_init : Cond.instanceMethod yX5_init ∈ TB := (tb_mem 587 (by decide +kernel) (by decide +kernel))
theorem mk_X5_grain : MK yX5_grain cX5_grain 4 (some .int) 3 := ⟨(tb_mem 690 (by decide +kernel) (by decide +kernel)), (tb_mem 40 (by decide +kernel) (by decide +kernel)), ⟨by decide +kernel, by decide +kernel⟩, by decide +kernel⟩
theorem mv_X5_grain : MV RX5 yX5_grain := ⟨(tb_mem 688 (by decide +kernel) (by decide +kernel)), (tb_mem 689 (by decide +kernel) (by decide +kernel))⟩
theorem mk_X5_in : MK yX5_in cX5_in 6 (some .boolean) 3 := ⟨(tb_mem 694 (by decide +kernel) (by decide +kernel)), (tb_mem 40 (by decide +kernel) (by decide +kernel)), ⟨by decide +kernel, by decide +kernel⟩, by decide +kernel⟩
theorem st_X5_in : Cond.static yX5_in ∈ TB := (tb_mem 693 (by decide +kernel) (by decide +kernel))
theorem mk_X5_addGrain : MK yX5_addGrain cX5_addGrain 4 none 3 := ⟨(tb_mem 700 (by decide +kernel) (by decide +kernel)), (tb_mem 40 (by decide +kernel) (by decide +kernel)), ⟨by decide +kernel, by decide +kernel⟩, by decide +kernel⟩
theorem mv_X5_addGrain : MV RX5 yX5_addGrain := ⟨(tb_mem 699 (by decide +kernel) (by decide +kernel)), (tb_mem 3 (by decide +kernel) (by decide +kernel))⟩
theorem mk_X5_set : MK yX5_set cX5_set 5 (some .int) 3 := ⟨(tb_mem 704 (by decide +kernel) (by decide +kernel)), (tb_mem 40 (by decide +kernel) (by decide +kernel)), ⟨by decide +kernel, by decide +kernel⟩, by decide +kernel⟩
theorem mv_X5_set : MV RX5 yX5_set := ⟨(tb_mem 702 (by decide +kernel) (by decide +kernel)), (tb_mem 703 (by decide +kernel) (by decide +kernel))⟩
theorem mk_X5_isGrain : MK yX5_isGrain cX5_isGrain 2 (some .boolean) 1 := ⟨(tb_mem 708 (by decide +kernel) (by decide +kernel)), (tb_mem 40 (by decide +kernel) (by decide +kernel)), ⟨by decide +kernel, by decide +kernel⟩, by decide +kernel⟩
theorem mv_X5_isGrain : MV RX5 yX5_isGrain := ⟨(tb_mem 707 (by decide +kernel) (by decide +kernel)), (tb_mem 4 (by decide +kernel) (by decide +kernel))⟩
theorem mk_X5_sieve : MK yX5_sieve cX5_sieve 5 (some .int) 4 := ⟨(tb_mem 713 (by decide +kernel) (by decide +kernel)), (tb_mem 40 (by decide +kernel) (by decide +kernel)), ⟨by decide +kernel, by decide +kernel⟩, by decide +kernel⟩
theorem mv_X5_sieve : MV RX5 yX5_sieve := ⟨(tb_mem 711 (by decide +kernel) (by decide +kernel)), (tb_mem 712 (by decide +kernel) (by decide +kernel))⟩
theorem mk_X5_addSieve : MK yX5_addSieve cX5_addSieve 5 none 4 := ⟨(tb_mem 719 (by decide +kernel) (by decide +kernel)), (tb_mem 40 (by decide +kernel) (by decide +kernel)), ⟨by decide +kernel, by decide +kernel⟩, by decide +kernel⟩
theorem mv_X5_addSieve : MV RX5 yX5_addSieve := ⟨(tb_mem 718 (by decide +kernel) (by decide +kernel)), (tb_mem 5 (by decide +kernel) (by decide +kernel))⟩
theorem mk_X5_told : MK yX5_told cX5_told 3 (some .int) 2 := ⟨(tb_mem 723 (by decide +kernel) (by decide +kernel)), (tb_mem 40 (by decide +kernel) (by decide +kernel)), ⟨by decide +kernel, by decide +kernel⟩, by decide +kernel⟩
theorem mv_X5_told : MV RX5 yX5_told := ⟨(tb_mem 721 (by decide +kernel) (by decide +kernel)), (tb_mem 722 (by decide +kernel) (by decide +kernel))⟩
theorem mk_X5_isSieve : MK yX5_isSieve cX5_isSieve 2 (some .boolean) 1 := ⟨(tb_mem 727 (by decide +kernel) (by decide +kernel)), (tb_mem 40 (by decide +kernel) (by decide +kernel)), ⟨by decide +kernel, by decide +kernel⟩, by decide +kernel⟩
theorem mv_X5_isSieve : MV RX5 yX5_isSieve := ⟨(tb_mem 726 (by decide +kernel) (by decide +kernel)), (tb_mem 6 (by decide +kernel) (by decide +kernel))⟩
theorem mk_X5_mend : MK yX5_mend cX5_mend 4 (some .int) 2 := ⟨(tb_mem 731 (by decide +kernel) (by decide +kernel)), (tb_mem 40 (by decide +kernel) (by decide +kernel)), ⟨by decide +kernel, by decide +kernel⟩, by decide +kernel⟩
theorem mv_X5_mend : MV RX5 yX5_mend := ⟨(tb_mem 729 (by decide +kernel) (by decide +kernel)), (tb_mem 730 (by decide +kernel) (by decide +kernel))⟩
theorem mk_X5_count : MK yX5_count cX5_count 4 (some .int) 1 := ⟨(tb_mem 735 (by decide +kernel) (by decide +kernel)), (tb_mem 40 (by decide +kernel) (by decide +kernel)), ⟨by decide +kernel, by decide +kernel⟩, by decide +kernel⟩
theorem mv_X5_count : MV RX5 yX5_count := ⟨(tb_mem 733 (by decide +kernel) (by decide +kernel)), (tb_mem 734 (by decide +kernel) (by decide +kernel))⟩
theorem mk_X5_type : MK yX5_type cX5_type 5 (some .int) 2 := ⟨(tb_mem 739 (by decide +kernel) (by decide +kernel)), (tb_mem 40 (by decide +kernel) (by decide +kernel)), ⟨by decide +kernel, by decide +kernel⟩, by decide +kernel⟩
theorem mv_X5_type : MV RX5 yX5_type := ⟨(tb_mem 737 (by decide +kernel) (by decide +kernel)), (tb_mem 738 (by decide +kernel) (by decide +kernel))⟩
theorem mk_X5_loft : MK yX5_loft cX5_loft 3 (some .int) 0 := ⟨(tb_mem 747 (by decide +kernel) (by decide +kernel)), (tb_mem 40 (by decide +kernel) (by decide +kernel)), ⟨by decide +kernel, by decide +kernel⟩, by decide +kernel⟩
theorem mv_X5_loft : MV RX5 yX5_loft := ⟨(tb_mem 745 (by decide +kernel) (by decide +kernel)), (tb_mem 746 (by decide +kernel) (by decide +kernel))⟩
theorem mk_X5_readAll : MK yX5_readAll cX5_readAll 5 (some .boolean) 2 := ⟨(tb_mem 751 (by decide +kernel) (by decide +kernel)), (tb_mem 40 (by decide +kernel) (by decide +kernel)), ⟨by decide +kernel, by decide +kernel⟩, by decide +kernel⟩
theorem mv_X5_readAll : MV RX5 yX5_readAll := ⟨(tb_mem 750 (by decide +kernel) (by decide +kernel)), (tb_mem 7 (by decide +kernel) (by decide +kernel))⟩
theorem mk_X5_readSieve : MK yX5_readSieve cX5_readSieve 3 (some .boolean) 1 := ⟨(tb_mem 755 (by decide +kernel) (by decide +kernel)), (tb_mem 40 (by decide +kernel) (by decide +kernel)), ⟨by decide +kernel, by decide +kernel⟩, by decide +kernel⟩
theorem mv_X5_readSieve : MV RX5 yX5_readSieve := ⟨(tb_mem 754 (by decide +kernel) (by decide +kernel)), (tb_mem 8 (by decide +kernel) (by decide +kernel))⟩
theorem mk_X5_nextByte : MK yX5_nextByte cX5_nextByte 1 (some .int) 0 := ⟨(tb_mem 759 (by decide +kernel) (by decide +kernel)), (tb_mem 40 (by decide +kernel) (by decide +kernel)), ⟨by decide +kernel, by decide +kernel⟩, by decide +kernel⟩
theorem mv_X5_nextByte : MV RX5 yX5_nextByte := ⟨(tb_mem 758 (by decide +kernel) (by decide +kernel)), (tb_mem 9 (by decide +kernel) (by decide +kernel))⟩
theorem mk_X5_readNumber : MK yX5_readNumber cX5_readNumber 5 (some .int) 2 := ⟨(tb_mem 763 (by decide +kernel) (by decide +kernel)), (tb_mem 40 (by decide +kernel) (by decide +kernel)), ⟨by decide +kernel, by decide +kernel⟩, by decide +kernel⟩
theorem mv_X5_readNumber : MV RX5 yX5_readNumber := ⟨(tb_mem 762 (by decide +kernel) (by decide +kernel)), (tb_mem 10 (by decide +kernel) (by decide +kernel))⟩
theorem mk_X5_takes : MK yX5_takes cX5_takes 3 (some .boolean) 1 := ⟨(tb_mem 770 (by decide +kernel) (by decide +kernel)), (tb_mem 40 (by decide +kernel) (by decide +kernel)), ⟨by decide +kernel, by decide +kernel⟩, by decide +kernel⟩
theorem mv_X5_takes : MV RX5 yX5_takes := ⟨(tb_mem 769 (by decide +kernel) (by decide +kernel)), (tb_mem 11 (by decide +kernel) (by decide +kernel))⟩
theorem mk_X5_readGrain : MK yX5_readGrain cX5_readGrain 2 (some .boolean) 1 := ⟨(tb_mem 775 (by decide +kernel) (by decide +kernel)), (tb_mem 40 (by decide +kernel) (by decide +kernel)), ⟨by decide +kernel, by decide +kernel⟩, by decide +kernel⟩
theorem mv_X5_readGrain : MV RX5 yX5_readGrain := ⟨(tb_mem 774 (by decide +kernel) (by decide +kernel)), (tb_mem 12 (by decide +kernel) (by decide +kernel))⟩
theorem mk_X5_end : MK yX5_end cX5_end 2 (some .int) 1 := ⟨(tb_mem 779 (by decide +kernel) (by decide +kernel)), (tb_mem 40 (by decide +kernel) (by decide +kernel)), ⟨by decide +kernel, by decide +kernel⟩, by decide +kernel⟩
theorem mv_X5_end : MV RX5 yX5_end := ⟨(tb_mem 778 (by decide +kernel) (by decide +kernel)), (tb_mem 13 (by decide +kernel) (by decide +kernel))⟩
theorem mk_X5_heap : MK yX5_heap cX5_heap 3 (some .int) 0 := ⟨(tb_mem 783 (by decide +kernel) (by decide +kernel)), (tb_mem 40 (by decide +kernel) (by decide +kernel)), ⟨by decide +kernel, by decide +kernel⟩, by decide +kernel⟩
theorem mv_X5_heap : MV RX5 yX5_heap := ⟨(tb_mem 781 (by decide +kernel) (by decide +kernel)), (tb_mem 782 (by decide +kernel) (by decide +kernel))⟩
theorem mk_X5_row : MK yX5_row cX5_row 3 (some .int) 0 := ⟨(tb_mem 787 (by decide +kernel) (by decide +kernel)), (tb_mem 40 (by decide +kernel) (by decide +kernel)), ⟨by decide +kernel, by decide +kernel⟩, by decide +kernel⟩
theorem mv_X5_row : MV RX5 yX5_row := ⟨(tb_mem 785 (by decide +kernel) (by decide +kernel)), (tb_mem 786 (by decide +kernel) (by decide +kernel))⟩
theorem mk_X5_readRow : MK yX5_readRow cX5_readRow 3 (some .boolean) 0 := ⟨(tb_mem 791 (by decide +kernel) (by decide +kernel)), (tb_mem 40 (by decide +kernel) (by decide +kernel)), ⟨by decide +kernel, by decide +kernel⟩, by decide +kernel⟩
theorem mv_X5_readRow : MV RX5 yX5_readRow := ⟨(tb_mem 790 (by decide +kernel) (by decide +kernel)), (tb_mem 14 (by decide +kernel) (by decide +kernel))⟩
theorem mk_X5_has : MK yX5_has cX5_has 2 (some .boolean) 2 := ⟨(tb_mem 794 (by decide +kernel) (by decide +kernel)), (tb_mem 40 (by decide +kernel) (by decide +kernel)), ⟨by decide +kernel, by decide +kernel⟩, by decide +kernel⟩
theorem st_X5_has : Cond.static yX5_has ∈ TB := (tb_mem 793 (by decide +kernel) (by decide +kernel))
theorem mk_X5_found : MK yX5_found cX5_found 3 (some .int) 2 := ⟨(tb_mem 798 (by decide +kernel) (by decide +kernel)), (tb_mem 40 (by decide +kernel) (by decide +kernel)), ⟨by decide +kernel, by decide +kernel⟩, by decide +kernel⟩
theorem mv_X5_found : MV RX5 yX5_found := ⟨(tb_mem 796 (by decide +kernel) (by decide +kernel)), (tb_mem 797 (by decide +kernel) (by decide +kernel))⟩
theorem mk_X5_tryNow : MK yX5_tryNow cX5_tryNow 1 none 0 := ⟨(tb_mem 802 (by decide +kernel) (by decide +kernel)), (tb_mem 40 (by decide +kernel) (by decide +kernel)), ⟨by decide +kernel, by decide +kernel⟩, by decide +kernel⟩
theorem mv_X5_tryNow : MV RX5 yX5_tryNow := ⟨(tb_mem 801 (by decide +kernel) (by decide +kernel)), (tb_mem 15 (by decide +kernel) (by decide +kernel))⟩
theorem mk_X5_begin : MK yX5_begin cX5_begin 2 none 0 := ⟨(tb_mem 806 (by decide +kernel) (by decide +kernel)), (tb_mem 40 (by decide +kernel) (by decide +kernel)), ⟨by decide +kernel, by decide +kernel⟩, by decide +kernel⟩
theorem mv_X5_begin : MV RX5 yX5_begin := ⟨(tb_mem 805 (by decide +kernel) (by decide +kernel)), (tb_mem 16 (by decide +kernel) (by decide +kernel))⟩
theorem mk_X5_takeRow : MK yX5_takeRow cX5_takeRow 2 none 0 := ⟨(tb_mem 810 (by decide +kernel) (by decide +kernel)), (tb_mem 40 (by decide +kernel) (by decide +kernel)), ⟨by decide +kernel, by decide +kernel⟩, by decide +kernel⟩
theorem mv_X5_takeRow : MV RX5 yX5_takeRow := ⟨(tb_mem 809 (by decide +kernel) (by decide +kernel)), (tb_mem 17 (by decide +kernel) (by decide +kernel))⟩
theorem mk_X5_shakeOnce : MK yX5_shakeOnce cX5_shakeOnce 7 none 0 := ⟨(tb_mem 814 (by decide +kernel) (by decide +kernel)), (tb_mem 40 (by decide +kernel) (by decide +kernel)), ⟨by decide +kernel, by decide +kernel⟩, by decide +kernel⟩
theorem mv_X5_shakeOnce : MV RX5 yX5_shakeOnce := ⟨(tb_mem 813 (by decide +kernel) (by decide +kernel)), (tb_mem 18 (by decide +kernel) (by decide +kernel))⟩
theorem mk_X5_passes : MK yX5_passes cX5_passes 3 (some .boolean) 2 := ⟨(tb_mem 818 (by decide +kernel) (by decide +kernel)), (tb_mem 40 (by decide +kernel) (by decide +kernel)), ⟨by decide +kernel, by decide +kernel⟩, by decide +kernel⟩
theorem mv_X5_passes : MV RX5 yX5_passes := ⟨(tb_mem 817 (by decide +kernel) (by decide +kernel)), (tb_mem 19 (by decide +kernel) (by decide +kernel))⟩
theorem mk_X5_grainsIn : MK yX5_grainsIn cX5_grainsIn 4 (some .int) 1 := ⟨(tb_mem 822 (by decide +kernel) (by decide +kernel)), (tb_mem 40 (by decide +kernel) (by decide +kernel)), ⟨by decide +kernel, by decide +kernel⟩, by decide +kernel⟩
theorem mv_X5_grainsIn : MV RX5 yX5_grainsIn := ⟨(tb_mem 821 (by decide +kernel) (by decide +kernel)), (tb_mem 20 (by decide +kernel) (by decide +kernel))⟩
theorem mk_X5_amountIn : MK yX5_amountIn cX5_amountIn 4 (some .int) 1 := ⟨(tb_mem 826 (by decide +kernel) (by decide +kernel)), (tb_mem 40 (by decide +kernel) (by decide +kernel)), ⟨by decide +kernel, by decide +kernel⟩, by decide +kernel⟩
theorem mv_X5_amountIn : MV RX5 yX5_amountIn := ⟨(tb_mem 825 (by decide +kernel) (by decide +kernel)), (tb_mem 21 (by decide +kernel) (by decide +kernel))⟩
theorem mk_X5_valueIn : MK yX5_valueIn cX5_valueIn 4 (some .int) 1 := ⟨(tb_mem 830 (by decide +kernel) (by decide +kernel)), (tb_mem 40 (by decide +kernel) (by decide +kernel)), ⟨by decide +kernel, by decide +kernel⟩, by decide +kernel⟩
theorem mv_X5_valueIn : MV RX5 yX5_valueIn := ⟨(tb_mem 829 (by decide +kernel) (by decide +kernel)), (tb_mem 22 (by decide +kernel) (by decide +kernel))⟩
theorem mk_X5_where : MK yX5_where cX5_where 2 (some .int) 1 := ⟨(tb_mem 834 (by decide +kernel) (by decide +kernel)), (tb_mem 40 (by decide +kernel) (by decide +kernel)), ⟨by decide +kernel, by decide +kernel⟩, by decide +kernel⟩
theorem mv_X5_where : MV RX5 yX5_where := ⟨(tb_mem 832 (by decide +kernel) (by decide +kernel)), (tb_mem 833 (by decide +kernel) (by decide +kernel))⟩
theorem mk_X5_chokes : MK yX5_chokes cX5_chokes 1 (some .int) 0 := ⟨(tb_mem 838 (by decide +kernel) (by decide +kernel)), (tb_mem 40 (by decide +kernel) (by decide +kernel)), ⟨by decide +kernel, by decide +kernel⟩, by decide +kernel⟩
theorem mv_X5_chokes : MV RX5 yX5_chokes := ⟨(tb_mem 836 (by decide +kernel) (by decide +kernel)), (tb_mem 837 (by decide +kernel) (by decide +kernel))⟩
theorem mk_X5_shake : MK yX5_shake cX5_shake 2 (some .int) 0 := ⟨(tb_mem 842 (by decide +kernel) (by decide +kernel)), (tb_mem 40 (by decide +kernel) (by decide +kernel)), ⟨by decide +kernel, by decide +kernel⟩, by decide +kernel⟩
theorem mv_X5_shake : MV RX5 yX5_shake := ⟨(tb_mem 840 (by decide +kernel) (by decide +kernel)), (tb_mem 841 (by decide +kernel) (by decide +kernel))⟩
theorem mk_X5_valueOf : MK yX5_valueOf cX5_valueOf 3 (some .int) 0 := ⟨(tb_mem 846 (by decide +kernel) (by decide +kernel)), (tb_mem 40 (by decide +kernel) (by decide +kernel)), ⟨by decide +kernel, by decide +kernel⟩, by decide +kernel⟩
theorem mv_X5_valueOf : MV RX5 yX5_valueOf := ⟨(tb_mem 845 (by decide +kernel) (by decide +kernel)), (tb_mem 23 (by decide +kernel) (by decide +kernel))⟩
theorem mk_X5_keep : MK yX5_keep cX5_keep 2 none 0 := ⟨(tb_mem 850 (by decide +kernel) (by decide +kernel)), (tb_mem 40 (by decide +kernel) (by decide +kernel)), ⟨by decide +kernel, by decide +kernel⟩, by decide +kernel⟩
theorem mv_X5_keep : MV RX5 yX5_keep := ⟨(tb_mem 849 (by decide +kernel) (by decide +kernel)), (tb_mem 24 (by decide +kernel) (by decide +kernel))⟩
theorem mk_X5_wearOut : MK yX5_wearOut cX5_wearOut 4 none 0 := ⟨(tb_mem 854 (by decide +kernel) (by decide +kernel)), (tb_mem 40 (by decide +kernel) (by decide +kernel)), ⟨by decide +kernel, by decide +kernel⟩, by decide +kernel⟩
theorem mv_X5_wearOut : MV RX5 yX5_wearOut := ⟨(tb_mem 853 (by decide +kernel) (by decide +kernel)), (tb_mem 25 (by decide +kernel) (by decide +kernel))⟩
theorem mk_X5_lasts : MK yX5_lasts cX5_lasts 4 (some .int) 0 := ⟨(tb_mem 859 (by decide +kernel) (by decide +kernel)), (tb_mem 40 (by decide +kernel) (by decide +kernel)), ⟨by decide +kernel, by decide +kernel⟩, by decide +kernel⟩
theorem mv_X5_lasts : MV RX5 yX5_lasts := ⟨(tb_mem 857 (by decide +kernel) (by decide +kernel)), (tb_mem 858 (by decide +kernel) (by decide +kernel))⟩
theorem mk_X5_best : MK yX5_best cX5_best 3 (some .int) 2 := ⟨(tb_mem 863 (by decide +kernel) (by decide +kernel)), (tb_mem 40 (by decide +kernel) (by decide +kernel)), ⟨by decide +kernel, by decide +kernel⟩, by decide +kernel⟩
theorem mv_X5_best : MV RX5 yX5_best := ⟨(tb_mem 861 (by decide +kernel) (by decide +kernel)), (tb_mem 862 (by decide +kernel) (by decide +kernel))⟩
theorem mk_X5_findBest : MK yX5_findBest cX5_findBest 6 none 2 := ⟨(tb_mem 869 (by decide +kernel) (by decide +kernel)), (tb_mem 40 (by decide +kernel) (by decide +kernel)), ⟨by decide +kernel, by decide +kernel⟩, by decide +kernel⟩
theorem mv_X5_findBest : MV RX5 yX5_findBest := ⟨(tb_mem 868 (by decide +kernel) (by decide +kernel)), (tb_mem 26 (by decide +kernel) (by decide +kernel))⟩
theorem mk_X5_isRow : MK yX5_isRow cX5_isRow 4 (some .boolean) 0 := ⟨(tb_mem 873 (by decide +kernel) (by decide +kernel)), (tb_mem 40 (by decide +kernel) (by decide +kernel)), ⟨by decide +kernel, by decide +kernel⟩, by decide +kernel⟩
theorem mv_X5_isRow : MV RX5 yX5_isRow := ⟨(tb_mem 872 (by decide +kernel) (by decide +kernel)), (tb_mem 27 (by decide +kernel) (by decide +kernel))⟩
theorem mk_X5_areParted : MK yX5_areParted cX5_areParted 4 (some .boolean) 0 := ⟨(tb_mem 877 (by decide +kernel) (by decide +kernel)), (tb_mem 40 (by decide +kernel) (by decide +kernel)), ⟨by decide +kernel, by decide +kernel⟩, by decide +kernel⟩
theorem mv_X5_areParted : MV RX5 yX5_areParted := ⟨(tb_mem 876 (by decide +kernel) (by decide +kernel)), (tb_mem 28 (by decide +kernel) (by decide +kernel))⟩
theorem mk_X5_takeBest : MK yX5_takeBest cX5_takeBest 3 none 1 := ⟨(tb_mem 881 (by decide +kernel) (by decide +kernel)), (tb_mem 40 (by decide +kernel) (by decide +kernel)), ⟨by decide +kernel, by decide +kernel⟩, by decide +kernel⟩
theorem mv_X5_takeBest : MV RX5 yX5_takeBest := ⟨(tb_mem 880 (by decide +kernel) (by decide +kernel)), (tb_mem 29 (by decide +kernel) (by decide +kernel))⟩
theorem mk_X5_nextRow : MK yX5_nextRow cX5_nextRow 2 (some .boolean) 0 := ⟨(tb_mem 885 (by decide +kernel) (by decide +kernel)), (tb_mem 40 (by decide +kernel) (by decide +kernel)), ⟨by decide +kernel, by decide +kernel⟩, by decide +kernel⟩
theorem mv_X5_nextRow : MV RX5 yX5_nextRow := ⟨(tb_mem 884 (by decide +kernel) (by decide +kernel)), (tb_mem 30 (by decide +kernel) (by decide +kernel))⟩
theorem mk_X5_parted : MK yX5_parted cX5_parted 3 (some .int) 2 := ⟨(tb_mem 889 (by decide +kernel) (by decide +kernel)), (tb_mem 40 (by decide +kernel) (by decide +kernel)), ⟨by decide +kernel, by decide +kernel⟩, by decide +kernel⟩
theorem mv_X5_parted : MV RX5 yX5_parted := ⟨(tb_mem 887 (by decide +kernel) (by decide +kernel)), (tb_mem 888 (by decide +kernel) (by decide +kernel))⟩
theorem mk_X5_season : MK yX5_season cX5_season 6 (some .int) 2 := ⟨(tb_mem 894 (by decide +kernel) (by decide +kernel)), (tb_mem 40 (by decide +kernel) (by decide +kernel)), ⟨by decide +kernel, by decide +kernel⟩, by decide +kernel⟩
theorem mv_X5_season : MV RX5 yX5_season := ⟨(tb_mem 892 (by decide +kernel) (by decide +kernel)), (tb_mem 893 (by decide +kernel) (by decide +kernel))⟩
theorem mk_X5_fits : MK yX5_fits cX5_fits 6 (some .long) 1 := ⟨(tb_mem 899 (by decide +kernel) (by decide +kernel)), (tb_mem 40 (by decide +kernel) (by decide +kernel)), ⟨by decide +kernel, by decide +kernel⟩, by decide +kernel⟩
theorem mv_X5_fits : MV RX5 yX5_fits := ⟨(tb_mem 897 (by decide +kernel) (by decide +kernel)), (tb_mem 898 (by decide +kernel) (by decide +kernel))⟩
theorem mk_X5_shares : MK yX5_shares cX5_shares 7 (some .int) 4 := ⟨(tb_mem 903 (by decide +kernel) (by decide +kernel)), (tb_mem 40 (by decide +kernel) (by decide +kernel)), ⟨by decide +kernel, by decide +kernel⟩, by decide +kernel⟩
theorem mv_X5_shares : MV RX5 yX5_shares := ⟨(tb_mem 901 (by decide +kernel) (by decide +kernel)), (tb_mem 902 (by decide +kernel) (by decide +kernel))⟩
theorem mk_X5_image : MK yX5_image cX5_image 2 (some .int) 0 := ⟨(tb_mem 909 (by decide +kernel) (by decide +kernel)), (tb_mem 40 (by decide +kernel) (by decide +kernel)), ⟨by decide +kernel, by decide +kernel⟩, by decide +kernel⟩
theorem mv_X5_image : MV RX5 yX5_image := ⟨(tb_mem 907 (by decide +kernel) (by decide +kernel)), (tb_mem 908 (by decide +kernel) (by decide +kernel))⟩
theorem mk_X5_carried : MK yX5_carried cX5_carried 6 (some .int) 3 := ⟨(tb_mem 913 (by decide +kernel) (by decide +kernel)), (tb_mem 40 (by decide +kernel) (by decide +kernel)), ⟨by decide +kernel, by decide +kernel⟩, by decide +kernel⟩
theorem mv_X5_carried : MV RX5 yX5_carried := ⟨(tb_mem 912 (by decide +kernel) (by decide +kernel)), (tb_mem 31 (by decide +kernel) (by decide +kernel))⟩
theorem mk_X5_restore : MK yX5_restore cX5_restore 2 (some .int) 0 := ⟨(tb_mem 917 (by decide +kernel) (by decide +kernel)), (tb_mem 40 (by decide +kernel) (by decide +kernel)), ⟨by decide +kernel, by decide +kernel⟩, by decide +kernel⟩
theorem mv_X5_restore : MV RX5 yX5_restore := ⟨(tb_mem 915 (by decide +kernel) (by decide +kernel)), (tb_mem 916 (by decide +kernel) (by decide +kernel))⟩
theorem mk_X5_sheet : MK yX5_sheet cX5_sheet 5 (some .int) 3 := ⟨(tb_mem 921 (by decide +kernel) (by decide +kernel)), (tb_mem 40 (by decide +kernel) (by decide +kernel)), ⟨by decide +kernel, by decide +kernel⟩, by decide +kernel⟩
theorem mv_X5_sheet : MV RX5 yX5_sheet := ⟨(tb_mem 919 (by decide +kernel) (by decide +kernel)), (tb_mem 920 (by decide +kernel) (by decide +kernel))⟩
theorem mk_X5_isSheet : MK yX5_isSheet cX5_isSheet 2 (some .boolean) 2 := ⟨(tb_mem 924 (by decide +kernel) (by decide +kernel)), (tb_mem 40 (by decide +kernel) (by decide +kernel)), ⟨by decide +kernel, by decide +kernel⟩, by decide +kernel⟩
theorem st_X5_isSheet : Cond.static yX5_isSheet ∈ TB := (tb_mem 923 (by decide +kernel) (by decide +kernel))
theorem mk_X5_drop : MK yX5_drop cX5_drop 2 (some .int) 1 := ⟨(tb_mem 928 (by decide +kernel) (by decide +kernel)), (tb_mem 40 (by decide +kernel) (by decide +kernel)), ⟨by decide +kernel, by decide +kernel⟩, by decide +kernel⟩
theorem mv_X5_drop : MV RX5 yX5_drop := ⟨(tb_mem 926 (by decide +kernel) (by decide +kernel)), (tb_mem 927 (by decide +kernel) (by decide +kernel))⟩
theorem mk_X5_item : MK yX5_item cX5_item 6 (some .int) 4 := ⟨(tb_mem 932 (by decide +kernel) (by decide +kernel)), (tb_mem 40 (by decide +kernel) (by decide +kernel)), ⟨by decide +kernel, by decide +kernel⟩, by decide +kernel⟩
theorem mv_X5_item : MV RX5 yX5_item := ⟨(tb_mem 930 (by decide +kernel) (by decide +kernel)), (tb_mem 931 (by decide +kernel) (by decide +kernel))⟩
theorem mk_X5_lacksRow : MK yX5_lacksRow cX5_lacksRow 5 (some .int) 4 := ⟨(tb_mem 936 (by decide +kernel) (by decide +kernel)), (tb_mem 40 (by decide +kernel) (by decide +kernel)), ⟨by decide +kernel, by decide +kernel⟩, by decide +kernel⟩
theorem mv_X5_lacksRow : MV RX5 yX5_lacksRow := ⟨(tb_mem 935 (by decide +kernel) (by decide +kernel)), (tb_mem 32 (by decide +kernel) (by decide +kernel))⟩
theorem mk_X5_asLane : MK yX5_asLane cX5_asLane 2 (some .int) 2 := ⟨(tb_mem 939 (by decide +kernel) (by decide +kernel)), (tb_mem 40 (by decide +kernel) (by decide +kernel)), ⟨by decide +kernel, by decide +kernel⟩, by decide +kernel⟩
theorem st_X5_asLane : Cond.static yX5_asLane ∈ TB := (tb_mem 938 (by decide +kernel) (by decide +kernel))
theorem mk_X5_meshes : MK yX5_meshes cX5_meshes 10 (some .long) 4 := ⟨(tb_mem 943 (by decide +kernel) (by decide +kernel)), (tb_mem 40 (by decide +kernel) (by decide +kernel)), ⟨by decide +kernel, by decide +kernel⟩, by decide +kernel⟩
theorem mv_X5_meshes : MV RX5 yX5_meshes := ⟨(tb_mem 941 (by decide +kernel) (by decide +kernel)), (tb_mem 942 (by decide +kernel) (by decide +kernel))⟩
theorem mk_X5_areFound : MK yX5_areFound cX5_areFound 4 (some .boolean) 1 := ⟨(tb_mem 947 (by decide +kernel) (by decide +kernel)), (tb_mem 40 (by decide +kernel) (by decide +kernel)), ⟨by decide +kernel, by decide +kernel⟩, by decide +kernel⟩
theorem mv_X5_areFound : MV RX5 yX5_areFound := ⟨(tb_mem 946 (by decide +kernel) (by decide +kernel)), (tb_mem 33 (by decide +kernel) (by decide +kernel))⟩
theorem mk_X5_torn : MK yX5_torn cX5_torn 9 (some .int) 3 := ⟨(tb_mem 951 (by decide +kernel) (by decide +kernel)), (tb_mem 40 (by decide +kernel) (by decide +kernel)), ⟨by decide +kernel, by decide +kernel⟩, by decide +kernel⟩
theorem mv_X5_torn : MV RX5 yX5_torn := ⟨(tb_mem 949 (by decide +kernel) (by decide +kernel)), (tb_mem 950 (by decide +kernel) (by decide +kernel))⟩
theorem mk_X5_film : MK yX5_film cX5_film 6 (some .int) 3 := ⟨(tb_mem 955 (by decide +kernel) (by decide +kernel)), (tb_mem 40 (by decide +kernel) (by decide +kernel)), ⟨by decide +kernel, by decide +kernel⟩, by decide +kernel⟩
theorem mv_X5_film : MV RX5 yX5_film := ⟨(tb_mem 953 (by decide +kernel) (by decide +kernel)), (tb_mem 954 (by decide +kernel) (by decide +kernel))⟩
theorem mk_X5_copy : MK yX5_copy cX5_copy 7 (some .int) 5 := ⟨(tb_mem 959 (by decide +kernel) (by decide +kernel)), (tb_mem 40 (by decide +kernel) (by decide +kernel)), ⟨by decide +kernel, by decide +kernel⟩, by decide +kernel⟩
theorem mv_X5_copy : MV RX5 yX5_copy := ⟨(tb_mem 957 (by decide +kernel) (by decide +kernel)), (tb_mem 958 (by decide +kernel) (by decide +kernel))⟩
theorem ml_X4_1 : Cond.methodLink RX4 1 objectInit ∈ TB := (tb_mem 49 (by decide +kernel) (by decide +kernel))
theorem ml_X4_47 : Cond.methodLink RX4 47 yX4_within ∈ TB := (tb_mem 212 (by decide +kernel) (by decide +kernel))
theorem ml_X4_55 : Cond.methodLink RX4 55 yX0_addGrain ∈ TB := (tb_mem 215 (by decide +kernel) (by decide +kernel))
theorem ml_X4_59 : Cond.methodLink RX4 59 yX0_hasGrain ∈ TB := (tb_mem 226 (by decide +kernel) (by decide +kernel))
theorem ml_X4_67 : Cond.methodLink RX4 67 yX4_exchange ∈ TB := (tb_mem 230 (by decide +kernel) (by decide +kernel))
theorem ml_X4_81 : Cond.methodLink RX4 81 yX0_addSieve ∈ TB := (tb_mem 242 (by decide +kernel) (by decide +kernel))
theorem ml_X4_85 : Cond.methodLink RX4 85 yX0_hasSieve ∈ TB := (tb_mem 250 (by decide +kernel) (by decide +kernel))
theorem ml_X4_91 : Cond.methodLink RX4 91 yX4_at ∈ TB := (tb_mem 233 (by decide +kernel) (by decide +kernel))
theorem ml_X4_104 : Cond.methodLink RX4 104 yX4_byteOf ∈ TB := (tb_mem 262 (by decide +kernel) (by decide +kernel))
theorem ml_X4_111 : Cond.methodLink RX4 111 yX3_append ∈ TB := (tb_mem 265 (by decide +kernel) (by decide +kernel))
theorem ml_X4_115 : Cond.methodLink RX4 115 yX3_readLoft ∈ TB := (tb_mem 274 (by decide +kernel) (by decide +kernel))
theorem ml_X4_122 : Cond.methodLink RX4 122 yX0_takeSieves ∈ TB := (tb_mem 318 (by decide +kernel) (by decide +kernel))
theorem ml_X4_128 : Cond.methodLink RX4 128 yX3_answerOr ∈ TB := (tb_mem 325 (by decide +kernel) (by decide +kernel))
theorem ml_X4_132 : Cond.methodLink RX4 132 yX3_readHeap ∈ TB := (tb_mem 333 (by decide +kernel) (by decide +kernel))
theorem ml_X4_135 : Cond.methodLink RX4 135 yX0_takeGrains ∈ TB := (tb_mem 338 (by decide +kernel) (by decide +kernel))
theorem ml_X4_138 : Cond.methodLink RX4 138 yX3_readRow ∈ TB := (tb_mem 346 (by decide +kernel) (by decide +kernel))
theorem ml_X4_142 : Cond.methodLink RX4 142 yX0_takeRow ∈ TB := (tb_mem 359 (by decide +kernel) (by decide +kernel))
theorem ml_X4_148 : Cond.methodLink RX4 148 yX0_load ∈ TB := (tb_mem 367 (by decide +kernel) (by decide +kernel))
theorem ml_X4_152 : Cond.methodLink RX4 152 yX0_amountOf ∈ TB := (tb_mem 371 (by decide +kernel) (by decide +kernel))
theorem ml_X4_155 : Cond.methodLink RX4 155 yX0_hasHeap ∈ TB := (tb_mem 379 (by decide +kernel) (by decide +kernel))
theorem ml_X4_158 : Cond.methodLink RX4 158 yX0_spread ∈ TB := (tb_mem 383 (by decide +kernel) (by decide +kernel))
theorem ml_X4_164 : Cond.methodLink RX4 164 yX0_worth ∈ TB := (tb_mem 405 (by decide +kernel) (by decide +kernel))
theorem ml_X4_167 : Cond.methodLink RX4 167 yX0_heapOf ∈ TB := (tb_mem 414 (by decide +kernel) (by decide +kernel))
theorem ml_X4_173 : Cond.methodLink RX4 173 yX0_tooBig ∈ TB := (tb_mem 422 (by decide +kernel) (by decide +kernel))
theorem ml_X4_177 : Cond.methodLink RX4 177 yX0_isTooMuch ∈ TB := (tb_mem 423 (by decide +kernel) (by decide +kernel))
theorem ml_X4_181 : Cond.methodLink RX4 181 yX0_falling ∈ TB := (tb_mem 424 (by decide +kernel) (by decide +kernel))
theorem ml_X4_184 : Cond.methodLink RX4 184 yX0_shakeThrough ∈ TB := (tb_mem 429 (by decide +kernel) (by decide +kernel))
theorem ml_X4_187 : Cond.methodLink RX4 187 yX0_takeAll ∈ TB := (tb_mem 443 (by decide +kernel) (by decide +kernel))
theorem ml_X4_190 : Cond.methodLink RX4 190 yX4_sameHeaps ∈ TB := (tb_mem 450 (by decide +kernel) (by decide +kernel))
theorem ml_X4_194 : Cond.methodLink RX4 194 yX4_seekBest ∈ TB := (tb_mem 458 (by decide +kernel) (by decide +kernel))
theorem ml_X4_201 : Cond.methodLink RX4 201 yX1_chosenAt ∈ TB := (tb_mem 474 (by decide +kernel) (by decide +kernel))
theorem ml_X4_204 : Cond.methodLink RX4 204 yX1_begin ∈ TB := (tb_mem 462 (by decide +kernel) (by decide +kernel))
theorem ml_X4_208 : Cond.methodLink RX4 208 yX4_tryParted ∈ TB := (tb_mem 483 (by decide +kernel) (by decide +kernel))
theorem ml_X4_217 : Cond.methodLink RX4 217 yX0_heapOfSize ∈ TB := (tb_mem 505 (by decide +kernel) (by decide +kernel))
theorem ml_X4_221 : Cond.methodLink RX4 221 yX4_sheetAt ∈ TB := (tb_mem 526 (by decide +kernel) (by decide +kernel))
theorem ml_X4_225 : Cond.methodLink RX4 225 yX4_isLane ∈ TB := (tb_mem 530 (by decide +kernel) (by decide +kernel))
theorem ml_X4_228 : Cond.methodLink RX4 228 yX0_isInRow ∈ TB := (tb_mem 533 (by decide +kernel) (by decide +kernel))
theorem ml_X4_233 : Cond.methodLink RX4 233 yX2_refusal ∈ TB := (tb_mem 535 (by decide +kernel) (by decide +kernel))
theorem ml_X4_236 : Cond.methodLink RX4 236 yX4_put ∈ TB := (tb_mem 236 (by decide +kernel) (by decide +kernel))
theorem ml_X4_240 : Cond.methodLink RX4 240 yX4_bearsOut ∈ TB := (tb_mem 543 (by decide +kernel) (by decide +kernel))
theorem ml_X4_244 : Cond.methodLink RX4 244 yX2_renew ∈ TB := (tb_mem 554 (by decide +kernel) (by decide +kernel))
theorem ml_X4_251 : Cond.methodLink RX4 251 yX2_write ∈ TB := (tb_mem 567 (by decide +kernel) (by decide +kernel))
theorem ml_X4_254 : Cond.methodLink RX4 254 yX2_hasItems ∈ TB := (tb_mem 580 (by decide +kernel) (by decide +kernel))
theorem ml_X4_260 : Cond.methodLink RX4 260 arraycopyName ∈ TB := (tb_mem 581 (by decide +kernel) (by decide +kernel))
theorem ml_X4_266 : Cond.methodLink RX4 266 yX4_tryBest ∈ TB := (tb_mem 466 (by decide +kernel) (by decide +kernel))
theorem ml_X4_270 : Cond.methodLink RX4 270 yX1_choose ∈ TB := (tb_mem 469 (by decide +kernel) (by decide +kernel))
theorem ml_X4_279 : Cond.methodLink RX4 279 yX1_mixes ∈ TB := (tb_mem 486 (by decide +kernel) (by decide +kernel))
theorem ml_X0_3 : Cond.methodLink RX0 3 objectInit ∈ TB := (tb_mem 57 (by decide +kernel) (by decide +kernel))
theorem ml_X0_61 : Cond.methodLink RX0 61 yX0_takeGrains ∈ TB := (tb_mem 447 (by decide +kernel) (by decide +kernel))
theorem ml_X0_65 : Cond.methodLink RX0 65 yX0_takeSieves ∈ TB := (tb_mem 448 (by decide +kernel) (by decide +kernel))
theorem ml_X0_68 : Cond.methodLink RX0 68 yX0_takeRow ∈ TB := (tb_mem 449 (by decide +kernel) (by decide +kernel))
theorem ml_X0_74 : Cond.methodLink RX0 74 yJ9_min_7cf53 ∈ TB := (tb_mem 409 (by decide +kernel) (by decide +kernel))
theorem ml_X0_80 : Cond.methodLink RX0 80 yX0_amountOf ∈ TB := (tb_mem 404 (by decide +kernel) (by decide +kernel))
theorem ml_X0_84 : Cond.methodLink RX0 84 yX0_letsFall ∈ TB := (tb_mem 396 (by decide +kernel) (by decide +kernel))
theorem ml_X0_88 : Cond.methodLink RX0 88 yX0_tooBig ∈ TB := (tb_mem 392 (by decide +kernel) (by decide +kernel))
theorem ml_X0_91 : Cond.methodLink RX0 91 yX0_isTooMuch ∈ TB := (tb_mem 400 (by decide +kernel) (by decide +kernel))
theorem ml_X0_94 : Cond.methodLink RX0 94 yX0_load ∈ TB := (tb_mem 387 (by decide +kernel) (by decide +kernel))
theorem ml_X0_98 : Cond.methodLink RX0 98 yX0_falling ∈ TB := (tb_mem 388 (by decide +kernel) (by decide +kernel))
theorem ml_X0_101 : Cond.methodLink RX0 101 yX0_worth ∈ TB := (tb_mem 433 (by decide +kernel) (by decide +kernel))
theorem ml_X0_104 : Cond.methodLink RX0 104 yX0_widen ∈ TB := (tb_mem 434 (by decide +kernel) (by decide +kernel))
theorem ml_X1_3 : Cond.methodLink RX1 3 objectInit ∈ TB := (tb_mem 120 (by decide +kernel) (by decide +kernel))
theorem ml_X1_35 : Cond.methodLink RX1 35 yJ6_bitCount_0f7a4 ∈ TB := (tb_mem 490 (by decide +kernel) (by decide +kernel))
theorem ml_X2_3 : Cond.methodLink RX2 3 objectInit ∈ TB := (tb_mem 172 (by decide +kernel) (by decide +kernel))
theorem ml_X2_19 : Cond.methodLink RX2 19 yJ9_min_7cf53 ∈ TB := (tb_mem 558 (by decide +kernel) (by decide +kernel))
theorem ml_X2_28 : Cond.methodLink RX2 28 yX2_hasItems ∈ TB := (tb_mem 539 (by decide +kernel) (by decide +kernel))
theorem ml_X3_3 : Cond.methodLink RX3 3 objectInit ∈ TB := (tb_mem 150 (by decide +kernel) (by decide +kernel))
theorem ml_X3_23 : Cond.methodLink RX3 23 yX3_begin ∈ TB := (tb_mem 278 (by decide +kernel) (by decide +kernel))
theorem ml_X3_31 : Cond.methodLink RX3 31 yX3_readKind ∈ TB := (tb_mem 282 (by decide +kernel) (by decide +kernel))
theorem ml_X3_35 : Cond.methodLink RX3 35 yX3_readNumber ∈ TB := (tb_mem 299 (by decide +kernel) (by decide +kernel))
theorem ml_X3_39 : Cond.methodLink RX3 39 yX3_passes ∈ TB := (tb_mem 286 (by decide +kernel) (by decide +kernel))
theorem ml_X3_44 : Cond.methodLink RX3 44 yX3_readDigit ∈ TB := (tb_mem 309 (by decide +kernel) (by decide +kernel))
theorem ml_X3_48 : Cond.methodLink RX3 48 yX0_addSieve ∈ TB := (tb_mem 313 (by decide +kernel) (by decide +kernel))
theorem ml_X3_55 : Cond.methodLink RX3 55 yX3_end ∈ TB := (tb_mem 314 (by decide +kernel) (by decide +kernel))
theorem ml_X3_61 : Cond.methodLink RX3 61 yX0_addGrain ∈ TB := (tb_mem 337 (by decide +kernel) (by decide +kernel))
theorem ml_X3_68 : Cond.methodLink RX3 68 yX3_next ∈ TB := (tb_mem 290 (by decide +kernel) (by decide +kernel))
theorem ml_X3_75 : Cond.methodLink RX3 75 yX0_isInRow ∈ TB := (tb_mem 350 (by decide +kernel) (by decide +kernel))
theorem ml_X3_78 : Cond.methodLink RX3 78 yX0_addPlace ∈ TB := (tb_mem 355 (by decide +kernel) (by decide +kernel))
theorem ml_X3_85 : Cond.methodLink RX3 85 yX3_blame ∈ TB := (tb_mem 295 (by decide +kernel) (by decide +kernel))
theorem ml_X3_93 : Cond.methodLink RX3 93 yJ9_min_7cf53 ∈ TB := (tb_mem 305 (by decide +kernel) (by decide +kernel))
theorem ml_L_9 : Cond.methodLink RL 9 yX4_init ∈ TB := (tb_mem 46 (by decide +kernel) (by decide +kernel))
theorem ml_L_12 : Cond.methodLink RL 12 yX5_init ∈ TB := (tb_mem 586 (by decide +kernel) (by decide +kernel))
theorem ml_L_13 : Cond.methodLink RL 13 yX4_grain ∈ TB := (tb_mem 208 (by decide +kernel) (by decide +kernel))
theorem ml_L_17 : Cond.methodLink RL 17 yX5_grain ∈ TB := (tb_mem 687 (by decide +kernel) (by decide +kernel))
theorem ml_L_18 : Cond.methodLink RL 18 yX4_set ∈ TB := (tb_mem 222 (by decide +kernel) (by decide +kernel))
theorem ml_L_21 : Cond.methodLink RL 21 yX5_set ∈ TB := (tb_mem 701 (by decide +kernel) (by decide +kernel))
theorem ml_L_22 : Cond.methodLink RL 22 yX4_sieve ∈ TB := (tb_mem 237 (by decide +kernel) (by decide +kernel))
theorem ml_L_26 : Cond.methodLink RL 26 yX5_sieve ∈ TB := (tb_mem 710 (by decide +kernel) (by decide +kernel))
theorem ml_L_27 : Cond.methodLink RL 27 yX4_told ∈ TB := (tb_mem 246 (by decide +kernel) (by decide +kernel))
theorem ml_L_31 : Cond.methodLink RL 31 yX5_told ∈ TB := (tb_mem 720 (by decide +kernel) (by decide +kernel))
theorem ml_L_32 : Cond.methodLink RL 32 yX4_mend ∈ TB := (tb_mem 254 (by decide +kernel) (by decide +kernel))
theorem ml_L_35 : Cond.methodLink RL 35 yX5_mend ∈ TB := (tb_mem 728 (by decide +kernel) (by decide +kernel))
theorem ml_L_38 : Cond.methodLink RL 38 yX4_type ∈ TB := (tb_mem 258 (by decide +kernel) (by decide +kernel))
theorem ml_L_42 : Cond.methodLink RL 42 yX5_type ∈ TB := (tb_mem 736 (by decide +kernel) (by decide +kernel))
theorem ml_L_43 : Cond.methodLink RL 43 yX4_loft ∈ TB := (tb_mem 270 (by decide +kernel) (by decide +kernel))
theorem ml_L_47 : Cond.methodLink RL 47 yX5_loft ∈ TB := (tb_mem 744 (by decide +kernel) (by decide +kernel))
theorem ml_L_48 : Cond.methodLink RL 48 yX4_heap ∈ TB := (tb_mem 329 (by decide +kernel) (by decide +kernel))
theorem ml_L_51 : Cond.methodLink RL 51 yX5_heap ∈ TB := (tb_mem 780 (by decide +kernel) (by decide +kernel))
theorem ml_L_52 : Cond.methodLink RL 52 yX4_row ∈ TB := (tb_mem 342 (by decide +kernel) (by decide +kernel))
theorem ml_L_55 : Cond.methodLink RL 55 yX5_row ∈ TB := (tb_mem 784 (by decide +kernel) (by decide +kernel))
theorem ml_L_56 : Cond.methodLink RL 56 yX4_count ∈ TB := (tb_mem 363 (by decide +kernel) (by decide +kernel))
theorem ml_L_60 : Cond.methodLink RL 60 yX5_count ∈ TB := (tb_mem 732 (by decide +kernel) (by decide +kernel))
theorem ml_L_61 : Cond.methodLink RL 61 yX4_found ∈ TB := (tb_mem 375 (by decide +kernel) (by decide +kernel))
theorem ml_L_64 : Cond.methodLink RL 64 yX5_found ∈ TB := (tb_mem 795 (by decide +kernel) (by decide +kernel))
theorem ml_L_65 : Cond.methodLink RL 65 yX4_where ∈ TB := (tb_mem 410 (by decide +kernel) (by decide +kernel))
theorem ml_L_68 : Cond.methodLink RL 68 yX5_where ∈ TB := (tb_mem 831 (by decide +kernel) (by decide +kernel))
theorem ml_L_69 : Cond.methodLink RL 69 yX4_chokes ∈ TB := (tb_mem 418 (by decide +kernel) (by decide +kernel))
theorem ml_L_72 : Cond.methodLink RL 72 yX5_chokes ∈ TB := (tb_mem 835 (by decide +kernel) (by decide +kernel))
theorem ml_L_73 : Cond.methodLink RL 73 yX4_shake ∈ TB := (tb_mem 425 (by decide +kernel) (by decide +kernel))
theorem ml_L_76 : Cond.methodLink RL 76 yX5_shake ∈ TB := (tb_mem 839 (by decide +kernel) (by decide +kernel))
theorem ml_L_77 : Cond.methodLink RL 77 yX4_lasts ∈ TB := (tb_mem 439 (by decide +kernel) (by decide +kernel))
theorem ml_L_80 : Cond.methodLink RL 80 yX5_lasts ∈ TB := (tb_mem 856 (by decide +kernel) (by decide +kernel))
theorem ml_L_81 : Cond.methodLink RL 81 yX4_best ∈ TB := (tb_mem 454 (by decide +kernel) (by decide +kernel))
theorem ml_L_84 : Cond.methodLink RL 84 yX5_best ∈ TB := (tb_mem 860 (by decide +kernel) (by decide +kernel))
theorem ml_L_85 : Cond.methodLink RL 85 yX4_parted ∈ TB := (tb_mem 479 (by decide +kernel) (by decide +kernel))
theorem ml_L_88 : Cond.methodLink RL 88 yX5_parted ∈ TB := (tb_mem 886 (by decide +kernel) (by decide +kernel))
theorem ml_L_89 : Cond.methodLink RL 89 yX4_season ∈ TB := (tb_mem 496 (by decide +kernel) (by decide +kernel))
theorem ml_L_92 : Cond.methodLink RL 92 yX5_season ∈ TB := (tb_mem 891 (by decide +kernel) (by decide +kernel))
theorem ml_L_93 : Cond.methodLink RL 93 yX4_fits ∈ TB := (tb_mem 500 (by decide +kernel) (by decide +kernel))
theorem ml_L_97 : Cond.methodLink RL 97 yX5_fits ∈ TB := (tb_mem 896 (by decide +kernel) (by decide +kernel))
theorem ml_L_98 : Cond.methodLink RL 98 yX4_shares ∈ TB := (tb_mem 509 (by decide +kernel) (by decide +kernel))
theorem ml_L_101 : Cond.methodLink RL 101 yX5_shares ∈ TB := (tb_mem 900 (by decide +kernel) (by decide +kernel))
theorem ml_L_102 : Cond.methodLink RL 102 yX4_image ∈ TB := (tb_mem 514 (by decide +kernel) (by decide +kernel))
theorem ml_L_105 : Cond.methodLink RL 105 yX5_image ∈ TB := (tb_mem 906 (by decide +kernel) (by decide +kernel))
theorem ml_L_106 : Cond.methodLink RL 106 yX4_restore ∈ TB := (tb_mem 518 (by decide +kernel) (by decide +kernel))
theorem ml_L_109 : Cond.methodLink RL 109 yX5_restore ∈ TB := (tb_mem 914 (by decide +kernel) (by decide +kernel))
theorem ml_L_110 : Cond.methodLink RL 110 yX4_meshes ∈ TB := (tb_mem 522 (by decide +kernel) (by decide +kernel))
theorem ml_L_114 : Cond.methodLink RL 114 yX5_meshes ∈ TB := (tb_mem 940 (by decide +kernel) (by decide +kernel))
theorem ml_L_115 : Cond.methodLink RL 115 yX4_torn ∈ TB := (tb_mem 546 (by decide +kernel) (by decide +kernel))
theorem ml_L_118 : Cond.methodLink RL 118 yX5_torn ∈ TB := (tb_mem 948 (by decide +kernel) (by decide +kernel))
theorem ml_L_119 : Cond.methodLink RL 119 yX4_sheet ∈ TB := (tb_mem 550 (by decide +kernel) (by decide +kernel))
theorem ml_L_122 : Cond.methodLink RL 122 yX5_sheet ∈ TB := (tb_mem 918 (by decide +kernel) (by decide +kernel))
theorem ml_L_123 : Cond.methodLink RL 123 yX4_drop ∈ TB := (tb_mem 559 (by decide +kernel) (by decide +kernel))
theorem ml_L_126 : Cond.methodLink RL 126 yX5_drop ∈ TB := (tb_mem 925 (by decide +kernel) (by decide +kernel))
theorem ml_L_127 : Cond.methodLink RL 127 yX4_item ∈ TB := (tb_mem 563 (by decide +kernel) (by decide +kernel))
theorem ml_L_130 : Cond.methodLink RL 130 yX5_item ∈ TB := (tb_mem 929 (by decide +kernel) (by decide +kernel))
theorem ml_L_131 : Cond.methodLink RL 131 yX4_film ∈ TB := (tb_mem 572 (by decide +kernel) (by decide +kernel))
theorem ml_L_134 : Cond.methodLink RL 134 yX5_film ∈ TB := (tb_mem 952 (by decide +kernel) (by decide +kernel))
theorem ml_L_135 : Cond.methodLink RL 135 yX4_copy ∈ TB := (tb_mem 576 (by decide +kernel) (by decide +kernel))
theorem ml_L_139 : Cond.methodLink RL 139 yX5_copy ∈ TB := (tb_mem 956 (by decide +kernel) (by decide +kernel))
theorem ml_X5_1 : Cond.methodLink RX5 1 objectInit ∈ TB := (tb_mem 589 (by decide +kernel) (by decide +kernel))
theorem ml_X5_68 : Cond.methodLink RX5 68 yX5_in ∈ TB := (tb_mem 692 (by decide +kernel) (by decide +kernel))
theorem ml_X5_81 : Cond.methodLink RX5 81 yX5_addGrain ∈ TB := (tb_mem 697 (by decide +kernel) (by decide +kernel))
theorem ml_X5_85 : Cond.methodLink RX5 85 yX5_isGrain ∈ TB := (tb_mem 705 (by decide +kernel) (by decide +kernel))
theorem ml_X5_95 : Cond.methodLink RX5 95 yX5_addSieve ∈ TB := (tb_mem 716 (by decide +kernel) (by decide +kernel))
theorem ml_X5_99 : Cond.methodLink RX5 99 yX5_isSieve ∈ TB := (tb_mem 724 (by decide +kernel) (by decide +kernel))
theorem ml_X5_122 : Cond.methodLink RX5 122 yX5_nextByte ∈ TB := (tb_mem 756 (by decide +kernel) (by decide +kernel))
theorem ml_X5_131 : Cond.methodLink RX5 131 yX5_readNumber ∈ TB := (tb_mem 760 (by decide +kernel) (by decide +kernel))
theorem ml_X5_135 : Cond.methodLink RX5 135 yX5_takes ∈ TB := (tb_mem 767 (by decide +kernel) (by decide +kernel))
theorem ml_X5_139 : Cond.methodLink RX5 139 yX5_readSieve ∈ TB := (tb_mem 752 (by decide +kernel) (by decide +kernel))
theorem ml_X5_142 : Cond.methodLink RX5 142 yX5_readGrain ∈ TB := (tb_mem 772 (by decide +kernel) (by decide +kernel))
theorem ml_X5_148 : Cond.methodLink RX5 148 yX5_readAll ∈ TB := (tb_mem 748 (by decide +kernel) (by decide +kernel))
theorem ml_X5_152 : Cond.methodLink RX5 152 yX5_end ∈ TB := (tb_mem 776 (by decide +kernel) (by decide +kernel))
theorem ml_X5_156 : Cond.methodLink RX5 156 yX5_has ∈ TB := (tb_mem 792 (by decide +kernel) (by decide +kernel))
theorem ml_X5_160 : Cond.methodLink RX5 160 yX5_readRow ∈ TB := (tb_mem 788 (by decide +kernel) (by decide +kernel))
theorem ml_X5_173 : Cond.methodLink RX5 173 yX5_passes ∈ TB := (tb_mem 815 (by decide +kernel) (by decide +kernel))
theorem ml_X5_176 : Cond.methodLink RX5 176 yX5_amountIn ∈ TB := (tb_mem 823 (by decide +kernel) (by decide +kernel))
theorem ml_X5_180 : Cond.methodLink RX5 180 yX5_valueIn ∈ TB := (tb_mem 827 (by decide +kernel) (by decide +kernel))
theorem ml_X5_183 : Cond.methodLink RX5 183 yX5_begin ∈ TB := (tb_mem 803 (by decide +kernel) (by decide +kernel))
theorem ml_X5_186 : Cond.methodLink RX5 186 yX5_takeRow ∈ TB := (tb_mem 807 (by decide +kernel) (by decide +kernel))
theorem ml_X5_189 : Cond.methodLink RX5 189 yX5_shakeOnce ∈ TB := (tb_mem 811 (by decide +kernel) (by decide +kernel))
theorem ml_X5_192 : Cond.methodLink RX5 192 yX5_tryNow ∈ TB := (tb_mem 799 (by decide +kernel) (by decide +kernel))
theorem ml_X5_195 : Cond.methodLink RX5 195 yX5_grainsIn ∈ TB := (tb_mem 819 (by decide +kernel) (by decide +kernel))
theorem ml_X5_198 : Cond.methodLink RX5 198 yX5_wearOut ∈ TB := (tb_mem 851 (by decide +kernel) (by decide +kernel))
theorem ml_X5_202 : Cond.methodLink RX5 202 yX5_valueOf ∈ TB := (tb_mem 843 (by decide +kernel) (by decide +kernel))
theorem ml_X5_205 : Cond.methodLink RX5 205 yX5_keep ∈ TB := (tb_mem 847 (by decide +kernel) (by decide +kernel))
theorem ml_X5_217 : Cond.methodLink RX5 217 yX5_isRow ∈ TB := (tb_mem 870 (by decide +kernel) (by decide +kernel))
theorem ml_X5_220 : Cond.methodLink RX5 220 yX5_areParted ∈ TB := (tb_mem 874 (by decide +kernel) (by decide +kernel))
theorem ml_X5_223 : Cond.methodLink RX5 223 yX5_takeBest ∈ TB := (tb_mem 878 (by decide +kernel) (by decide +kernel))
theorem ml_X5_227 : Cond.methodLink RX5 227 yX5_nextRow ∈ TB := (tb_mem 882 (by decide +kernel) (by decide +kernel))
theorem ml_X5_234 : Cond.methodLink RX5 234 yX5_findBest ∈ TB := (tb_mem 866 (by decide +kernel) (by decide +kernel))
theorem ml_X5_246 : Cond.methodLink RX5 246 yX5_carried ∈ TB := (tb_mem 910 (by decide +kernel) (by decide +kernel))
theorem ml_X5_254 : Cond.methodLink RX5 254 yX5_isSheet ∈ TB := (tb_mem 922 (by decide +kernel) (by decide +kernel))
theorem ml_X5_257 : Cond.methodLink RX5 257 yX5_lacksRow ∈ TB := (tb_mem 933 (by decide +kernel) (by decide +kernel))
theorem ml_X5_261 : Cond.methodLink RX5 261 yX5_asLane ∈ TB := (tb_mem 937 (by decide +kernel) (by decide +kernel))
theorem ml_X5_264 : Cond.methodLink RX5 264 yX5_areFound ∈ TB := (tb_mem 944 (by decide +kernel) (by decide +kernel))
theorem nl_X4_9 : (RX4, 9, yX0_init, "SieveLoft") ∈ NL := by decide +kernel
theorem nl_X4_28 : (RX4, 28, yX1_init, "SieveLoft") ∈ NL := by decide +kernel
theorem nl_X4_35 : (RX4, 35, yX3_init, "SieveLoft") ∈ NL := by decide +kernel
theorem nl_X4_46 : (RX4, 46, yX2_init, "SieveLoft") ∈ NL := by decide +kernel
theorem nl_X0_49 : (RX0, 49, yX4_at, "SieveLoft") ∈ NL := by decide +kernel
theorem nl_X0_53 : (RX0, 53, yX4_put, "SieveLoft") ∈ NL := by decide +kernel
theorem nl_X0_57 : (RX0, 57, yX4_copyAll, "SieveLoft") ∈ NL := by decide +kernel
theorem nl_X1_31 : (RX1, 31, yX4_copyAll, "SieveLoft") ∈ NL := by decide +kernel
theorem nl_X1_41 : (RX1, 41, yX4_at, "SieveLoft") ∈ NL := by decide +kernel
theorem nl_X2_32 : (RX2, 32, yX4_put, "SieveLoft") ∈ NL := by decide +kernel
theorem nl_X3_19 : (RX3, 19, yX4_put, "SieveLoft") ∈ NL := by decide +kernel
theorem nl_X3_71 : (RX3, 71, yX4_within, "SieveLoft") ∈ NL := by decide +kernel
theorem nl_X3_88 : (RX3, 88, yX4_at, "SieveLoft") ∈ NL := by decide +kernel
theorem ck_X4_77 : Cond.constant RX4 77 (99999) ∈ TB := (tb_mem 241 (by decide +kernel) (by decide +kernel))
theorem ck_X4_220 : Cond.constant RX4 220 (9999999) ∈ TB := (tb_mem 513 (by decide +kernel) (by decide +kernel))
theorem ck_X0_108 : Cond.constant RX0 108 (1000000) ∈ TB := (tb_mem 438 (by decide +kernel) (by decide +kernel))
theorem ck_X3_43 : Cond.constant RX3 43 (99999) ∈ TB := (tb_mem 308 (by decide +kernel) (by decide +kernel))
theorem ck_X3_92 : Cond.constant RX3 92 (100000) ∈ TB := (tb_mem 304 (by decide +kernel) (by decide +kernel))
theorem ck_X5_130 : Cond.constant RX5 130 (999999) ∈ TB := (tb_mem 766 (by decide +kernel) (by decide +kernel))
theorem ck_X5_138 : Cond.constant RX5 138 (99999) ∈ TB := (tb_mem 771 (by decide +kernel) (by decide +kernel))
theorem ck_X5_201 : Cond.constant RX5 201 (1000000) ∈ TB := (tb_mem 855 (by decide +kernel) (by decide +kernel))
theorem ck_J6_265 : Cond.constant RJ6 265 (1431655765) ∈ TB := (tb_mem 493 (by decide +kernel) (by decide +kernel))
theorem ck_J6_266 : Cond.constant RJ6 266 (858993459) ∈ TB := (tb_mem 494 (by decide +kernel) (by decide +kernel))
theorem ck_J6_267 : Cond.constant RJ6 267 (252645135) ∈ TB := (tb_mem 495 (by decide +kernel) (by decide +kernel))
theorem cl_X4_215 : Cond.constantLong RX4 215 (-1) ∈ TB := (tb_mem 504 (by decide +kernel) (by decide +kernel))
theorem cl_X4_231 : Cond.constantLong RX4 231 (-2) ∈ TB := (tb_mem 534 (by decide +kernel) (by decide +kernel))
theorem cl_L_36 : Cond.constantLong RL 36 (4294967295) ∈ TB := (tb_mem 960 (by decide +kernel) (by decide +kernel))
theorem cl_X5_75 : Cond.constantLong RX5 75 (60) ∈ TB := (tb_mem 691 (by decide +kernel) (by decide +kernel))
theorem cl_X5_77 : Cond.constantLong RX5 77 (9999) ∈ TB := (tb_mem 695 (by decide +kernel) (by decide +kernel))
theorem cl_X5_79 : Cond.constantLong RX5 79 (99) ∈ TB := (tb_mem 696 (by decide +kernel) (by decide +kernel))
theorem cl_X5_89 : Cond.constantLong RX5 89 (2) ∈ TB := (tb_mem 709 (by decide +kernel) (by decide +kernel))
theorem cl_X5_91 : Cond.constantLong RX5 91 (3) ∈ TB := (tb_mem 714 (by decide +kernel) (by decide +kernel))
theorem cl_X5_93 : Cond.constantLong RX5 93 (99999) ∈ TB := (tb_mem 715 (by decide +kernel) (by decide +kernel))
theorem cl_X5_108 : Cond.constantLong RX5 108 (8) ∈ TB := (tb_mem 740 (by decide +kernel) (by decide +kernel))
theorem cl_X5_110 : Cond.constantLong RX5 110 (255) ∈ TB := (tb_mem 741 (by decide +kernel) (by decide +kernel))
theorem cl_X5_112 : Cond.constantLong RX5 112 (32) ∈ TB := (tb_mem 742 (by decide +kernel) (by decide +kernel))
theorem cl_X5_114 : Cond.constantLong RX5 114 (126) ∈ TB := (tb_mem 743 (by decide +kernel) (by decide +kernel))
theorem cl_X5_126 : Cond.constantLong RX5 126 (48) ∈ TB := (tb_mem 764 (by decide +kernel) (by decide +kernel))
theorem cl_X5_128 : Cond.constantLong RX5 128 (57) ∈ TB := (tb_mem 765 (by decide +kernel) (by decide +kernel))
theorem cl_X5_230 : Cond.constantLong RX5 230 (4) ∈ TB := (tb_mem 864 (by decide +kernel) (by decide +kernel))
theorem cl_X5_232 : Cond.constantLong RX5 232 (-2) ∈ TB := (tb_mem 865 (by decide +kernel) (by decide +kernel))
theorem cl_X5_238 : Cond.constantLong RX5 238 (-1) ∈ TB := (tb_mem 890 (by decide +kernel) (by decide +kernel))
theorem cl_X5_240 : Cond.constantLong RX5 240 (20) ∈ TB := (tb_mem 895 (by decide +kernel) (by decide +kernel))
theorem cl_X5_242 : Cond.constantLong RX5 242 (9999999) ∈ TB := (tb_mem 904 (by decide +kernel) (by decide +kernel))
theorem cl_X5_244 : Cond.constantLong RX5 244 (999) ∈ TB := (tb_mem 905 (by decide +kernel) (by decide +kernel))
theorem kl_X4_7 : Cond.classLink RX4 7 RX0 ∈ TB := (tb_mem 52 (by decide +kernel) (by decide +kernel))
theorem kl_X4_26 : Cond.classLink RX4 26 RX1 ∈ TB := (tb_mem 115 (by decide +kernel) (by decide +kernel))
theorem kl_X4_33 : Cond.classLink RX4 33 RX3 ∈ TB := (tb_mem 145 (by decide +kernel) (by decide +kernel))
theorem kl_X4_40 : Cond.classLink RX4 40 RX2 ∈ TB := (tb_mem 166 (by decide +kernel) (by decide +kernel))
theorem kl_L_7 : Cond.classLink RL 7 RX4 ∈ TB := (tb_mem 44 (by decide +kernel) (by decide +kernel))
theorem kl_L_10 : Cond.classLink RL 10 RX5 ∈ TB := (tb_mem 584 (by decide +kernel) (by decide +kernel))
theorem ki_X0 : Cond.instantiable RX0 13 ∈ TB := (tb_mem 53 (by decide +kernel) (by decide +kernel))
theorem kn_X0 : Cond.initialized RX0 ∈ TB := (tb_mem 36 (by decide +kernel) (by decide +kernel))
theorem ki_X1 : Cond.instantiable RX1 6 ∈ TB := (tb_mem 116 (by decide +kernel) (by decide +kernel))
theorem kn_X1 : Cond.initialized RX1 ∈ TB := (tb_mem 37 (by decide +kernel) (by decide +kernel))
theorem ki_X2 : Cond.instantiable RX2 3 ∈ TB := (tb_mem 168 (by decide +kernel) (by decide +kernel))
theorem kn_X2 : Cond.initialized RX2 ∈ TB := (tb_mem 39 (by decide +kernel) (by decide +kernel))
theorem ki_X3 : Cond.instantiable RX3 4 ∈ TB := (tb_mem 146 (by decide +kernel) (by decide +kernel))
theorem kn_X3 : Cond.initialized RX3 ∈ TB := (tb_mem 38 (by decide +kernel) (by decide +kernel))
theorem ki_X4 : Cond.instantiable RX4 7 ∈ TB := (tb_mem 45 (by decide +kernel) (by decide +kernel))
theorem kn_X4 : Cond.initialized RX4 ∈ TB := (tb_mem 35 (by decide +kernel) (by decide +kernel))
theorem ki_X5 : Cond.instantiable RX5 32 ∈ TB := (tb_mem 585 (by decide +kernel) (by decide +kernel))
theorem kn_X5 : Cond.initialized RX5 ∈ TB := (tb_mem 40 (by decide +kernel) (by decide +kernel))
theorem ob_in : Cond.instanceMethod objectInit ∈ TB := (tb_mem 50 (by decide +kernel) (by decide +kernel))
theorem ob_co : Cond.code objectInit ⟨#[0xb1]⟩ 1 none ∈ TB := (tb_mem 51 (by decide +kernel) (by decide +kernel))
theorem mi_st : Cond.static Lib.Math.min.name ∈ TB := (tb_mem 306 (by decide +kernel) (by decide +kernel))
theorem mi_in : Cond.initialized "java/lang/Math" ∈ TB := (tb_mem 41 (by decide +kernel) (by decide +kernel))
theorem mi_co : Cond.code Lib.Math.min.name Lib.Math.min.code 2 (some .int) ∈ TB := (tb_mem 307 (by decide +kernel) (by decide +kernel))
theorem ac_st : Cond.static arraycopyName ∈ TB := (tb_mem 582 (by decide +kernel) (by decide +kernel))
theorem ac_na : Cond.native arraycopyName ∈ TB := (tb_mem 583 (by decide +kernel) (by decide +kernel))
theorem ac_in : Cond.initialized "java/lang/System" ∈ TB := (tb_mem 43 (by decide +kernel) (by decide +kernel))
theorem ar_in : Cond.arrayClass .int ∈ TB := (tb_mem 114 (by decide +kernel) (by decide +kernel))
end
section
/-! calls in the layer Go: the callee's cells are cut out by their places, what comes back is put in their places -/
def splice (ws : va_W) : List Nat → va_W → va_W
  | [], [] => ws
  | [], x :: xs => ws ++ (x :: xs)
  | _ :: _, [] => ws
  | i :: is, x :: xs => splice (ws.set i x) is xs
theorem splice_at : ∀ (isC : List Nat) (ws w1 : va_W), isC.length ≤ w1.length → va_nd isC = true → (∀ i ∈ isC, i < ws.length) → ∀ (k : Nat) (q : Nat × va_E), (splice ws isC w1)[k]? = some q →
    (∃ j : Nat, isC[j]? = some k ∧ w1[j]? = some q) ∨ (k ∉ isC ∧ ws[k]? = some q) ∨ (ws.length ≤ k ∧ w1[isC.length + (k - ws.length)]? = some q)
  | [], ws, [], _, _, _, k, q, h => by
    unfold splice at h
    exact Or.inr (Or.inl ⟨List.not_mem_nil, h⟩)
  | [], ws, x :: xs, _, _, _, k, q, h => by
    unfold splice at h
    by_cases hl : k < ws.length
    · rw [List.getElem?_append_left hl] at h
      exact Or.inr (Or.inl ⟨List.not_mem_nil, h⟩)
    · rw [List.getElem?_append_right (by omega)] at h
      exact Or.inr (Or.inr ⟨by omega, by simpa using h⟩)
  | i :: is, ws, [], hlen, _, _, k, q, h => by simp at hlen
  | i :: is, ws, x :: xs, hlen, hn, hlt, k, q, h => by
    simp only [va_nd, Bool.and_eq_true, decide_eq_true_eq] at hn
    have hi : i < ws.length := hlt i List.mem_cons_self
    unfold splice at h
    rcases splice_at is (ws.set i x) xs (by simpa using hlen) hn.2 (fun j hj => by rw [List.length_set]; exact hlt j (List.mem_cons_of_mem _ hj)) k q h with ⟨j, h1, h2⟩ | ⟨h1, h2⟩ | ⟨h1, h2⟩
    · exact Or.inl ⟨j + 1, by simpa using h1, by simpa using h2⟩
    · by_cases hk : k = i
      · subst hk
        rw [List.getElem?_set_self hi] at h2
        exact Or.inl ⟨0, rfl, h2⟩
      · rw [List.getElem?_set_ne (Ne.symm hk)] at h2
        exact Or.inr (Or.inl ⟨fun z => (List.mem_cons.mp z).elim hk h1, h2⟩)
    · rw [List.length_set] at h1 h2
      refine Or.inr (Or.inr ⟨h1, ?_⟩)
      rw [List.length_cons, show is.length + 1 + (k - ws.length) = (is.length + (k - ws.length)) + 1 by omega, List.getElem?_cons_succ]
      exact h2
/-- the same in one pass, for places in order -/
def spl : Nat → va_W → List Nat → va_W → va_W
  | _, ws, [], ys => ws ++ ys
  | _, ws, _ :: _, [] => ws
  | _, [], _ :: _, _ :: _ => []
  | k, x :: ws, i :: is, y :: ys => cond (Nat.beq k i) (y :: spl (k + 1) ws is ys) (x :: spl (k + 1) ws (i :: is) (y :: ys))
def inc : List Nat → Bool
  | [] => true
  | [_] => true
  | a :: b :: l => Nat.blt a b && inc (b :: l)
theorem inc_lt : ∀ (l : List Nat) (a : Nat), inc (a :: l) = true → inc l = true ∧ ∀ b ∈ l, a < b
  | [], _, _ => ⟨rfl, fun _ h => absurd h List.not_mem_nil⟩
  | b :: l, a, h => by
    unfold inc at h
    rw [Bool.and_eq_true] at h
    have h1 : a < b := Nat.blt_eq.mp h.1
    refine ⟨h.2, fun c hc => ?_⟩
    rcases List.mem_cons.mp hc with rfl | hc
    · exact h1
    · exact Nat.lt_trans h1 ((inc_lt l b h.2).2 c hc)
theorem inc_nd : ∀ (l : List Nat), inc l = true → va_nd l = true
  | [], _ => rfl
  | a :: l, h => by
    obtain ⟨h1, h2⟩ := inc_lt l a h
    unfold va_nd
    rw [inc_nd l h1, Bool.and_true, decide_eq_true_eq]
    exact fun q => Nat.lt_irrefl _ (h2 a q)
theorem splice_app : ∀ (isC : List Nat) (x : Nat × va_E) (pre ws w1 : va_W), (∀ i ∈ isC, pre.length < i) → splice (pre ++ x :: ws) isC w1 = splice ((pre ++ [x]) ++ ws) isC w1 := by
  intro isC x pre ws w1 _
  rw [List.append_assoc]; rfl
theorem splice_spl : ∀ (ws : va_W) (isC : List Nat) (w1 pre : va_W), inc isC = true → (∀ i ∈ isC, pre.length ≤ i) → (∀ i ∈ isC, i < pre.length + ws.length) → isC.length ≤ w1.length → splice (pre ++ ws) isC w1 = pre ++ spl pre.length ws isC w1
  | ws, [], [], pre, _, _, _, _ => by simp [splice, spl]
  | ws, [], y :: ys, pre, _, _, _, _ => by simp [splice, spl, List.append_assoc]
  | ws, i :: is, [], pre, _, _, _, h => by simp at h
  | [], i :: is, y :: ys, pre, _, h1, h2, _ => by
    have a := h1 i List.mem_cons_self
    have b := h2 i List.mem_cons_self
    simp at b; omega
  | x :: ws, i :: is, y :: ys, pre, h0, h1, h2, h3 => by
    have a := h1 i List.mem_cons_self
    obtain ⟨g1, g2⟩ := inc_lt is i h0
    have el : (pre ++ [x]).length = pre.length + 1 := by simp
    have el2 : (pre ++ [y]).length = pre.length + 1 := by simp
    by_cases e : pre.length = i
    · have e1 : spl pre.length (x :: ws) (i :: is) (y :: ys) = y :: spl (pre.length + 1) ws is ys := by
        rw [spl, show Nat.beq pre.length i = true from (by rw [e]; exact Nat.beq_refl i)]
        rfl
      have e2 : splice (pre ++ x :: ws) (i :: is) (y :: ys) = splice ((pre ++ [y]) ++ ws) is ys := by
        rw [splice, ← e, List.set_append_right _ _ (Nat.le_refl _), Nat.sub_self, List.append_assoc]
        rfl
      rw [e2, e1, splice_spl ws is ys (pre ++ [y]) g1 (fun j hj => by rw [el2]; have := g2 j hj; omega) (fun j hj => by rw [el2]; have := h2 j (List.mem_cons_of_mem _ hj); simp at this; omega) (by simpa using h3), el2, List.append_assoc]
      rfl
    · have e1 : spl pre.length (x :: ws) (i :: is) (y :: ys) = x :: spl (pre.length + 1) ws (i :: is) (y :: ys) := by
        rw [spl, show Nat.beq pre.length i = false from (by
          cases hq : Nat.beq pre.length i with
          | false => rfl
          | true => exact absurd (Nat.eq_of_beq_eq_true hq) e)]
        rfl
      have e2 : splice (pre ++ x :: ws) (i :: is) (y :: ys) = splice ((pre ++ [x]) ++ ws) (i :: is) (y :: ys) := by
        rw [List.append_assoc]; rfl
      rw [e2, e1, splice_spl ws (i :: is) (y :: ys) (pre ++ [x]) h0 (fun j hj => by
        rw [el]
        rcases List.mem_cons.mp hj with rfl | hj
        · omega
        · have := g2 j hj; omega) (fun j hj => by rw [el]; have := h2 j hj; simp at this; omega) h3, el, List.append_assoc]
      rfl
theorem map_at {is : List Nat} {ws wc : va_W} (hC : is.map (fun i => ws[i]?) = wc.map some) (k : Nat) (q : Nat × va_E) (h : wc[k]? = some q) : ∃ i, is[k]? = some i ∧ ws[i]? = some q := by
  have h1 : (is.map (fun i => ws[i]?))[k]? = some (some q) := by rw [hC, List.getElem?_map, h]; rfl
  rw [List.getElem?_map] at h1
  cases hi : is[k]? with
  | none => rw [hi] at h1; cases h1
  | some i => rw [hi] at h1; exact ⟨i, rfl, Option.some.inj h1⟩
theorem map_lt {is : List Nat} {ws wc : va_W} (hC : is.map (fun i => ws[i]?) = wc.map some) : ∀ i ∈ is, i < ws.length := by
  intro i hi
  obtain ⟨k, hk⟩ := List.getElem?_of_mem hi
  have h1 : (is.map (fun i => ws[i]?))[k]? = some (ws[i]?) := by rw [List.getElem?_map, hk]; rfl
  rw [hC, List.getElem?_map] at h1
  cases hq : wc[k]? with
  | none => rw [hq] at h1; cases h1
  | some q =>
    rw [hq] at h1
    exact (List.getElem?_eq_some_iff.mp (Option.some.inj h1).symm).1
theorem splice_ok {A : Nat → Prop} {D : va_G} {cl : List vw_C} {ws wc w1 : va_W} {H H1 : Heap} {isC : List Nat} (hP : va_P D cl ws H) (hD : va_D A ws) (hC : isC.map (fun i => ws[i]?) = wc.map some) (hn : va_nd isC = true) (hlen : isC.length ≤ w1.length)
    (hk : ∀ q : Nat, q < H.size → ¬ va_A wc H.size q → H1[q]? = H[q]?) (hF : ∀ q, va_A wc H.size q → A q) (hP1 : va_P D cl w1 H1) (hD1 : va_D (va_A wc H.size) w1) : va_P D cl (splice ws isC w1) H1 ∧ va_D A (splice ws isC w1) := by
  have at' := splice_at isC ws w1 hlen hn (map_lt hC)
  have off : ∀ (k : Nat) (q : Nat × va_E), k ∉ isC → ws[k]? = some q → ¬ va_A wc H.size q.1 := by
    intro k q hkc hq h
    rcases h with ⟨c, e, h⟩ | h
    · obtain ⟨i, h1, h2⟩ := map_at hC c (q.1, e) h
      have := hD.1 i k (q.1, e) q h2 hq rfl
      subst this
      exact hkc (List.mem_of_getElem? h1)
    · exact absurd (hP k q hq).lt (Nat.not_lt.mpr h)
  refine ⟨fun k q hq => ?_, fun i j p q hi hj hpq => ?_, fun k q hq => ?_⟩
  · rcases at' k q hq with ⟨j, -, h2⟩ | ⟨h1, h2⟩ | ⟨-, h2⟩
    · exact hP1 j q h2
    · exact (hP k q h2).kept (hk q.1 (hP k q h2).lt (off k q h1 h2))
    · exact hP1 _ q h2
  · rcases at' i p hi with ⟨a, a1, a2⟩ | ⟨a1, a2⟩ | ⟨a1, a2⟩ <;> rcases at' j q hj with ⟨b, b1, b2⟩ | ⟨b1, b2⟩ | ⟨b1, b2⟩
    · have := hD1.1 a b p q a2 b2 hpq
      subst this
      exact Option.some.inj (a1.symm.trans b1)
    · exact absurd (hD1.2 a p a2) (by rw [hpq]; exact off j q b1 b2)
    · have h3 := hD1.1 a _ p q a2 b2 hpq
      have h4 := (List.getElem?_eq_some_iff.mp a1).1
      omega
    · exact absurd (hD1.2 b q b2) (by rw [← hpq]; exact off i p a1 a2)
    · exact hD.1 i j p q a2 b2 hpq
    · exact absurd (hD1.2 _ q b2) (by rw [← hpq]; exact off i p a1 a2)
    · have h3 := hD1.1 _ b p q a2 b2 hpq
      have h4 := (List.getElem?_eq_some_iff.mp b1).1
      omega
    · exact absurd (hD1.2 _ p a2) (by rw [hpq]; exact off j q b1 b2)
    · have h3 := hD1.1 _ _ p q a2 b2 hpq
      omega
  · rcases at' k q hq with ⟨j, -, h2⟩ | ⟨h1, h2⟩ | ⟨-, h2⟩
    · exact hF _ (hD1.2 j q h2)
    · exact hD.2 k q h2
    · exact hF _ (hD1.2 _ q h2)
theorem tb_pay {y : MethodName} {cc : ByteArray} {maxL : Nat} {ret : Option FieldType} {n : Nat} {args : Array Value} {s : State} (hts : ∀ w ∈ TB, w.before args s = true) (h : MK y cc maxL ret n) : ∀ w ∈ (Cond.code y cc maxL ret :: TB), ∀ (a' : Array Value) (U : State), s.WarmedH U.vm → w.before a' U = true := by
  intro w hw a' U hW
  have hm : w ∈ TB := (List.mem_cons.mp hw).elim (fun e => e ▸ h.1) id
  exact word_at hW (tb_good hm) (hts w hm)
section CALLS
variable {p : Program} {l : Launch} {e : Env} {R : Room} {s : State} {m : MethodId} {args : Array Value} {below : List Frame} {meth : Method} {c : Code} {H : Heap} {locs : List Loc} {cells slots : Nat} {Q : State → Prop}
theorem g_after {S : Type} {cI cS : ClassId} {D : va_G} {A : Nat → Prop} {P : S → Prop} {val : S → Option Value} {wr ws' : S → va_W} {ws wc : va_W} {isC : List Nat} {mc ms pc : Nat} {ls : Array Slot} {st0 rest : List Value} {a : Array Value}
    (hr : va_Run p l e R s m args below meth c H locs cells slots mc ms (F0 m pc ls st0) rest (Qg cI cS D (va_A wc H.size) P val wr a) (va_A wc H.size))
    (hP : va_P D vwCl ws H) (hD : va_D A ws) (hS : va_S A s.heap H locs) (hA : ∀ q : Nat, s.heap.size ≤ q → A q) (hC : isC.map (fun i => ws[i]?) = wc.map some) (hi : inc isC = true) (hlen : ∀ u, isC.length ≤ (wr u).length) (hw : ∀ u, spl 0 ws isC (wr u) = ws' u)
    (kk : ∀ u, P u → ∀ (H1 : Heap) (locs1 : List Loc), va_P D vwCl (ws' u) H1 → va_D A (ws' u) → va_S A s.heap H1 locs1 → W p l e R s m args below meth c H1 locs1 (cells + mc) (slots + ms) Q (F0 m (pc + 3) ls ((val u).toList ++ rest))) : W p l e R s m args below meth c H locs cells slots Q (F0 m pc ls st0) := by
  have hF := va_free hD hS hA isC hC
  have hn := inc_nd isC hi
  intro T hT X
  obtain ⟨v, st₀, t, T', L, h0, X', hL, e1, e2, ⟨⟨u, hv, hp, hb, hbd⟩, hz, hk⟩, st⟩ := hr T hT X
  cases hv
  rw [h0] at hz hk
  obtain ⟨hP1, hD1⟩ := splice_ok hP hD hC hn (hlen u) (H1 := T'.heap) (fun q h1 h2 => by rw [e1]; exact hk q h1 h2) hF (by rw [e1]; exact hb) hbd
  have hsp := splice_spl ws isC (wr u) [] hi (fun _ _ => Nat.zero_le _) (fun i h => by simpa using map_lt hC i h) (hlen u)
  rw [List.nil_append, List.nil_append] at hsp
  rw [hsp] at hP1 hD1
  have hw := hw u
  simp only [List.length_nil] at hP1 hD1
  rw [hw] at hP1 hD1
  obtain ⟨t2, a1, b1⟩ := kk u hp T'.heap (locs ++ L) hP1 hD1
    ⟨Nat.le_trans hS.1 (by rw [e1]; exact hz), fun q h1 h2 => by rw [e1, hk q (Nat.lt_of_lt_of_le h1 hS.1) (fun z => h2 (hF q z))]; exact hS.2.1 q h1 h2, fun q hq => by
      rcases List.mem_append.mp hq with h | h
      · exact hS.2.2 q h
      · exact hF _ (hL q h)⟩ T' rfl X'
  exact ⟨t2, st t2 a1, b1⟩
theorem bf_blind {cI cS : ClassId} {D : va_G} {sz : Nat} {w : va_W} {av : List Value} : FrameBlind (va_Pc av (Bf cI cS D sz w)) := by
  intro a U g mk h
  obtain ⟨h1, h2, h3, h4, h5, h6⟩ := h
  exact ⟨h1, h2, h3, va_K.moved (u := U) (U := U.calling g mk a) (Vm.Alike.refl U.vm) h4, h5, NWs.same (u := U) (U := U.calling g mk a) rfl h6⟩
theorem bf_pre {cI cS : ClassId} {D : va_G} {A : Nat → Prop} {ws wc : va_W} {isC : List Nat} {av : List Value} (hP : va_P D vwCl ws H) (hD : va_D A ws) (hK : va_K D vwCl (TYS cI cS) s) (hN : NWs s) (hC : isC.map (fun i => ws[i]?) = wc.map some) (hn : va_nd isC = true) :
    ∀ U : State, U.heap = H → s.WarmedH U.vm → va_Pc av (Bf cI cS D H.size wc) av.toArray U := by
  intro U hU hW
  refine ⟨rfl, by rw [hU], ?_, va_K.moved hW.alike hK, (hD.sub isC hn hC).weaken (fun _ _ _ _ => trivial), hN.warm hW⟩
  rw [hU]
  refine hP.sub isC ?_
  have h2 := congrArg (List.filterMap id) hC
  simpa [List.filterMap_map, Function.comp_def] using h2
end CALLS
section GOC
variable {E : CX} {Q : State → Prop} {cI cS : ClassId} {own : String} {cc : ByteArray} {ret : Option FieldType} {nL cells slots pc d mc ms : Nat} {lv : List (Nat × Value)} {st : List Value} {ws : va_W}
variable {S : Type} {P : S → Prop} {val : S → Option Value} {wr ws' : S → va_W} {y : MethodName} {bytes : ByteArray} {maxL' n d' mc' ms' index : Nat} {ret' : Option FieldType} {wc : va_W} {As rest : List Value}
theorem g_callV (hE : CxOk E cI cS own cc nL ret d mc ms) {b : Nat} (hM : CT cI cS y bytes maxL' ret' d' (.ref b :: As) wc mc' ms' P val wr) (hk : MK y bytes maxL' ret' n) {C : String} (hv : MV C y) (hlk : Cond.methodLink own index y ∈ TB) (hd : decode cc pc = .ok (.invokevirtual index, 3)) (hst : st = As.reverse ++ .ref b :: rest) (hn : As.length = n) {T : u_T} {N ci : Nat} {fs : List Value} (q0 : Nat) (hq : ws[q0]? = some (b, .inr (ci, fs))) (hci : vwCl[ci]? = some (C, T, N))
    (hd' : d' + 1 ≤ d) (hL : maxL' ≤ 45) (hcat : (rest.map fun v => v.category).sum ≤ 8) (hmc : cells + mc' ≤ mc) (hms : slots + ms' ≤ ms) (isC : List Nat) (hC : isC.map (fun i => ws[i]?) = wc.map some) (hnd : inc isC = true) (hlen : ∀ u, isC.length ≤ (wr u).length) (hw : ∀ u, spl 0 ws isC (wr u) = ws' u)
    (kk : ∀ u, P u → Go E Q nL (cells + mc') (slots + ms') (pc + 3) lv ((val u).toList ++ rest) (ws' u)) : Go E Q nL cells slots pc lv st ws := by
  obtain ⟨p, l, e, R, s, m, args, below, meth, c, D, A⟩ := E
  obtain ⟨hx, hb, hml, hown, hts, hK, hN, hA, hfr, hlo, hmcR, hmsR, hlocks, hr⟩ := hE
  intro H locs ls hP hD hS hl
  exact g_after (va_runV (As := As) (rest := rest) ⟨hx, hb, hml, hown, hts⟩ (hM l D H.size) ⟨⟨rfl, rfl, by show d' + 1 ≤ R.frames; omega, by show 8 + (maxL' + 11) + 64 * d' ≤ R.locals; omega, tb_pay hts hk, List.mem_cons_self, hts _ hk.1, hts _ hk.2.1, hk.2.2.1, hk.par, hts _ hlk⟩, hts _ hv.1, hts _ hv.2⟩
    ⟨bf_blind, va_recv hK hP hci hq, fun U hU hW => bf_pre hP hD hK hN hC (inc_nd _ hnd) U hU hW⟩ rfl hn hl.1 hst (lv_room hcat) hd ⟨by omega, by omega⟩) hP hD hS hA hC hnd hlen hw (fun u hu H1 locs1 hP1 hD1 hS1 => kk u hu H1 locs1 ls hP1 hD1 hS1 hl)
theorem g_callS (hE : CxOk E cI cS own cc nL ret d mc ms) (hM : CT cI cS y bytes maxL' ret' d' As wc mc' ms' P val wr) (hk : MK y bytes maxL' ret' n) (hv : Cond.static y ∈ TB) (hlk : Cond.methodLink own index y ∈ TB) (hd : decode cc pc = .ok (.invokestatic index, 3)) (hst : st = As.reverse ++ rest) (hn : As.length = n)
    (hd' : d' + 1 ≤ d) (hL : maxL' ≤ 45) (hcat : (rest.map fun v => v.category).sum ≤ 8) (hmc : cells + mc' ≤ mc) (hms : slots + ms' ≤ ms) (isC : List Nat) (hC : isC.map (fun i => ws[i]?) = wc.map some) (hnd : inc isC = true) (hlen : ∀ u, isC.length ≤ (wr u).length) (hw : ∀ u, spl 0 ws isC (wr u) = ws' u)
    (kk : ∀ u, P u → Go E Q nL (cells + mc') (slots + ms') (pc + 3) lv ((val u).toList ++ rest) (ws' u)) : Go E Q nL cells slots pc lv st ws := by
  obtain ⟨p, l, e, R, s, m, args, below, meth, c, D, A⟩ := E
  obtain ⟨hx, hb, hml, hown, hts, hK, hN, hA, hfr, hlo, hmcR, hmsR, hlocks, hr⟩ := hE
  intro H locs ls hP hD hS hl
  exact g_after (va_runS (As := As) (rest := rest) ⟨hx, hb, hml, hown, hts⟩ (hM l D H.size) ⟨⟨rfl, rfl, by show d' + 1 ≤ R.frames; omega, by show 8 + (maxL' + 11) + 64 * d' ≤ R.locals; omega, tb_pay hts hk, List.mem_cons_self, hts _ hk.1, hts _ hk.2.1, hk.2.2.1, hk.par, hts _ hlk⟩, hts _ hv⟩
    ⟨bf_blind, fun U hU hW => bf_pre hP hD hK hN hC (inc_nd _ hnd) U hU hW⟩ rfl hn hl.1 hst (lv_room hcat) hd ⟨by omega, by omega⟩) hP hD hS hA hC hnd hlen hw (fun u hu H1 locs1 hP1 hD1 hS1 => kk u hu H1 locs1 ls hP1 hD1 hS1 hl)
theorem g_callSN (hE : CxOk E cI cS own cc nL ret d mc ms) (hM : CT cI cS y bytes maxL' ret' d' As wc mc' ms' P val wr) (hk : MK y bytes maxL' ret' n) (hv : Cond.static y ∈ TB) {host : String} (hlk : (own, index, y, host) ∈ NL) (hd : decode cc pc = .ok (.invokestatic index, 3)) (hst : st = As.reverse ++ rest) (hn : As.length = n)
    (hd' : d' + 1 ≤ d) (hL : maxL' ≤ 45) (hcat : (rest.map fun v => v.category).sum ≤ 8) (hmc : cells + mc' ≤ mc) (hms : slots + ms' ≤ ms) (isC : List Nat) (hC : isC.map (fun i => ws[i]?) = wc.map some) (hnd : inc isC = true) (hlen : ∀ u, isC.length ≤ (wr u).length) (hw : ∀ u, spl 0 ws isC (wr u) = ws' u)
    (kk : ∀ u, P u → Go E Q nL (cells + mc') (slots + ms') (pc + 3) lv ((val u).toList ++ rest) (ws' u)) : Go E Q nL cells slots pc lv st ws := by
  obtain ⟨p, l, e, R, s, m, args, below, meth, c, D, A⟩ := E
  obtain ⟨hx, hb, hml, hown, hts, hK, hN, hA, hfr, hlo, hmcR, hmsR, hlocks, hr⟩ := hE
  intro H locs ls hP hD hS hl
  exact g_after (va_runSN (As := As) (rest := rest) (host := host) ⟨hx, hb, hml, hown, hts⟩ (hM l D H.size) ⟨⟨⟨rfl, rfl, by show d' + 1 ≤ R.frames; omega, by show 8 + (maxL' + 11) + 64 * d' ≤ R.locals; omega, tb_pay hts hk, List.mem_cons_self⟩, hts _ hk.1, hts _ hk.2.1, hk.2.2.1, hk.par, va_Nw.use rfl (hN.1 _ hlk)⟩, hts _ hv, trivial⟩
    ⟨bf_blind, fun U hU hW => bf_pre hP hD hK hN hC (inc_nd _ hnd) U hU hW⟩ rfl hn hl.1 hst (lv_room hcat) hd ⟨by omega, by omega⟩) hP hD hS hA hC hnd hlen hw (fun u hu H1 locs1 hP1 hD1 hS1 => kk u hu H1 locs1 ls hP1 hD1 hS1 hl)
theorem g_callI (hE : CxOk E cI cS own cc nL ret d mc ms) {b : Nat} (hM : CT cI cS y bytes maxL' none d' (.ref b :: As) wc mc' ms' P val wr) (hk : MK y bytes maxL' none n) (hy1 : y.name = "<init>") (hin : Cond.instanceMethod y ∈ TB) (hlk : Cond.methodLink own index y ∈ TB) (hd : decode cc pc = .ok (.invokespecial index, 3)) (hst : st = As.reverse ++ .ref b :: rest) (hn : As.length = n)
    (hd' : d' + 1 ≤ d) (hL : maxL' ≤ 45) (hcat : (rest.map fun v => v.category).sum ≤ 8) (hmc : cells + mc' ≤ mc) (hms : slots + ms' ≤ ms) (isC : List Nat) (hC : isC.map (fun i => ws[i]?) = wc.map some) (hnd : inc isC = true) (hlen : ∀ u, isC.length ≤ (wr u).length) (hw : ∀ u, spl 0 ws isC (wr u) = ws' u)
    (kk : ∀ u, P u → Go E Q nL (cells + mc') (slots + ms') (pc + 3) lv ((val u).toList ++ rest) (ws' u)) : Go E Q nL cells slots pc lv st ws := by
  obtain ⟨p, l, e, R, s, m, args, below, meth, c, D, A⟩ := E
  obtain ⟨hx, hb, hml, hown, hts, hK, hN, hA, hfr, hlo, hmcR, hmsR, hlocks, hr⟩ := hE
  intro H locs ls hP hD hS hl
  exact g_after (va_runI (As := As) (rest := rest) ⟨hx, hb, hml, hown, hts⟩ (hM l D H.size) ⟨⟨rfl, rfl, by show d' + 1 ≤ R.frames; omega, by show 8 + (maxL' + 11) + 64 * d' ≤ R.locals; omega, tb_pay hts hk, List.mem_cons_self, hts _ hk.1, hts _ hk.2.1, hk.2.2.1, hk.par, hts _ hlk⟩, hy1, hts _ hin⟩
    ⟨bf_blind, fun U hU hW => bf_pre hP hD hK hN hC (inc_nd _ hnd) U hU hW⟩ rfl hn hl.1 hst (lv_room hcat) hd ⟨by omega, by omega⟩) hP hD hS hA hC hnd hlen hw (fun u hu H1 locs1 hP1 hD1 hS1 => kk u hu H1 locs1 ls hP1 hD1 hS1 hl)
theorem g_callIN (hE : CxOk E cI cS own cc nL ret d mc ms) {b : Nat} (hM : CT cI cS y bytes maxL' none d' (.ref b :: As) wc mc' ms' P val wr) (hk : MK y bytes maxL' none n) (hy1 : y.name = "<init>") (hin : Cond.instanceMethod y ∈ TB) {host : String} (hlk : (own, index, y, host) ∈ NL) (hd : decode cc pc = .ok (.invokespecial index, 3)) (hst : st = As.reverse ++ .ref b :: rest) (hn : As.length = n)
    (hd' : d' + 1 ≤ d) (hL : maxL' ≤ 45) (hcat : (rest.map fun v => v.category).sum ≤ 8) (hmc : cells + mc' ≤ mc) (hms : slots + ms' ≤ ms) (isC : List Nat) (hC : isC.map (fun i => ws[i]?) = wc.map some) (hnd : inc isC = true) (hlen : ∀ u, isC.length ≤ (wr u).length) (hw : ∀ u, spl 0 ws isC (wr u) = ws' u)
    (kk : ∀ u, P u → Go E Q nL (cells + mc') (slots + ms') (pc + 3) lv ((val u).toList ++ rest) (ws' u)) : Go E Q nL cells slots pc lv st ws := by
  obtain ⟨p, l, e, R, s, m, args, below, meth, c, D, A⟩ := E
  obtain ⟨hx, hb, hml, hown, hts, hK, hN, hA, hfr, hlo, hmcR, hmsR, hlocks, hr⟩ := hE
  intro H locs ls hP hD hS hl
  exact g_after (va_runIN (As := As) (rest := rest) (host := host) ⟨hx, hb, hml, hown, hts⟩ (hM l D H.size) ⟨⟨⟨rfl, rfl, by show d' + 1 ≤ R.frames; omega, by show 8 + (maxL' + 11) + 64 * d' ≤ R.locals; omega, tb_pay hts hk, List.mem_cons_self⟩, hts _ hk.1, hts _ hk.2.1, hk.2.2.1, hk.par, va_Nw.use rfl (hN.1 _ hlk)⟩, hy1, hts _ hin⟩
    ⟨bf_blind, fun U hU hW => bf_pre hP hD hK hN hC (inc_nd _ hnd) U hU hW⟩ rfl hn hl.1 hst (lv_room hcat) hd ⟨by omega, by omega⟩) hP hD hS hA hC hnd hlen hw (fun u hu H1 locs1 hP1 hD1 hS1 => kk u hu H1 locs1 ls hP1 hD1 hS1 hl)
theorem g_objInit (hE : CxOk E cI cS own cc nL ret d mc ms) (h1 : 1 ≤ d) {idx : Nat} (hlk : Cond.methodLink own idx objectInit ∈ TB) (hin : Cond.instanceMethod objectInit ∈ TB) (hco : Cond.code objectInit ⟨#[0xb1]⟩ 1 none ∈ TB) {a : Nat} (hcat : (st.map fun v => v.category).sum + 12 ≤ 64) (hd : decode cc pc = .ok (.invokespecial idx, 3)) (kk : Go E Q nL cells slots (pc + 3) lv st ws) : Go E Q nL cells slots pc lv (.ref a :: st) ws := by
  obtain ⟨p, l, e, R, s, m, args, below, meth, c, D, A⟩ := E
  obtain ⟨hx, hb, hml, hown, hts, hK, hN, hA, hfr, hlo, hmcR, hmsR, hlocks, hr⟩ := hE
  intro H locs ls hP hD hS hl
  refine W.objInit hx hb hown (hts _ hlk) (hts _ hin) (hts _ hco) rfl (by rw [hml]; exact hl.1) rfl hd (by omega) ?_ (kk H locs ls hP hD hS hl)
  show 2 * 0 + _ + 12 ≤ R.locals
  omega
theorem g_new (hE : CxOk E cI cS own cc nL ret d mc ms) {C : String} {T : u_T} {N ci idx : Nat} (hci : vwCl[ci]? = some (C, T, N)) (hin : ∀ w ∈ u_ws C T N, w ∈ TB) (ty : Nat → FieldType) (hty : ∀ k, k < N → parseFieldDescriptor (T k).2.2.1 = some (ty k)) (hcl : Cond.classLink own idx C ∈ TB) (hinst : Cond.instantiable C N ∈ TB) (hini : Cond.initialized C ∈ TB) (fs : List Value) (hfs : ∀ j, j < N → defaultValue (ty j) = vp_V fs j) (hmc : cells + 1 ≤ mc) (hms : slots + N ≤ ms) (hd : decode cc pc = .ok (.new idx, 3))
    (kk : ∀ q : Nat, Go E Q nL (cells + 1) (slots + N) (pc + 3) lv (.ref q :: st) (ws ++ [(q, .inr (ci, fs))])) : Go E Q nL cells slots pc lv st ws := by
  obtain ⟨p, l, e, R, s, m, args, below, meth, c, D, A⟩ := E
  obtain ⟨hx, hb, hml, hown, hts, hK, hN, hA, hfr, hlo, hmcR, hmsR, hlocks, hr⟩ := hE
  intro H locs ls hP hD hS hl
  exact va_new hx hb hts hin ty hty hown (hts _ hcl) (hts _ hinst) (hts _ hini) hK hP hD hS hA hci hfs (by omega) (by omega) hd (fun q H1 hP1 hD1 hS1 => kk q H1 locs ls hP1 hD1 hS1 hl)
theorem g_newi (hE : CxOk E cI cS own cc nL ret d mc ms) (harr : Cond.arrayClass .int ∈ TB) {k : Int32} (N : Nat) (hn : ¬ k < 0) (hN : k.toNatClampNeg = N) (hbytes : N * 4 ≤ 536870912) (hmc : cells + 1 ≤ mc) (hms : slots + N ≤ ms) (hd : decode cc pc = .ok (.newarray .int, 2))
    (kk : ∀ q : Nat, Go E Q nL (cells + 1) (slots + N) (pc + 2) lv (.ref q :: st) (ws ++ [(q, .inl (cI, N, .inl (fun _ => 0)))])) : Go E Q nL cells slots pc lv (.int k :: st) ws := by
  obtain ⟨p, l, e, R, s, m, args, below, meth, c, D, A⟩ := E
  obtain ⟨hx, hb, hml, hown, hts, hK, hN', hA, hfr, hlo, hmcR, hmsR, hlocks, hr⟩ := hE
  intro H locs ls hP hD hS hl
  refine va_newa (atype := .int) (ty := .int) hx hb (hts _ harr) rfl hK hP hD hS hA (a0 := (N, .inl (fun _ => 0))) (fun cA => ?_) hn hN hbytes (by omega) (by omega) hd (fun q cA H1 hK1 hP1 hD1 hS1 => ?_)
  · rw [vp_cell_i]; rfl
  · have h1 : cA = cI := by
      have e1 : va_RA s cA .int := (hK1.2 2 (cA, .int) rfl).2
      have e2 : va_RA s cI .int := (hK.2 0 (cI, .int) rfl).2
      exact Option.some.inj (e1.symm.trans e2)
    subst h1
    exact kk q H1 locs ls hP1 hD1 hS1 hl
theorem g_newq (hE : CxOk E cI cS own cc nL ret d mc ms) {idx : Nat} (hcl : Cond.classLink own idx RX2 ∈ TB) {k : Int32} (N : Nat) (hn : ¬ k < 0) (hN : k.toNatClampNeg = N) (hbytes : N * 4 ≤ 536870912) (hmc : cells + 1 ≤ mc) (hms : slots + N ≤ ms) (hd : decode cc pc = .ok (.anewarray idx, 3))
    (kk : ∀ q : Nat, Go E Q nL (cells + 1) (slots + N) (pc + 3) lv (.ref q :: st) (ws ++ [(q, .inl (cS, N, .inr (.inr (.inr (.inr (fun _ => none))))))])) : Go E Q nL cells slots pc lv (.int k :: st) ws := by
  obtain ⟨p, l, e, R, s, m, args, below, meth, c, D, A⟩ := E
  obtain ⟨hx, hb, hml, hown, hts, hK, hN', hA, hfr, hlo, hmcR, hmsR, hlocks, hr⟩ := hE
  intro H locs ls hP hD hS hl
  refine va_newq (C := RX2) hx hb hown (hts _ hcl) hN'.2 hK hP hD hS hA hn hN hbytes (by omega) (by omega) hd (fun q cA H1 hK1 hP1 hD1 hS1 => ?_)
  have h1 : cA = cS := by
    obtain ⟨kA, comp, -, -, -, e1⟩ : va_RA s cA (.object RX2) := (hK1.2 2 (cA, .object RX2) rfl).2
    obtain ⟨kA2, comp2, -, -, -, e2⟩ : va_RA s cS (.object RX2) := (hK.2 1 (cS, .object RX2) rfl).2
    exact Option.some.inj (e1.symm.trans e2)
  subst h1
  exact kk q H1 locs ls hP1 hD1 hS1 hl
end GOC
end
section
/-! the worlds: cells of the class' and the reference's objects, out of their states (functions of field and place) -/
def pA {α : Type} (f : Nat → α) (k : Nat) (v : α) : Nat → α := fun g => cond (Nat.beq g k) v (f g)
def millW (cI : ClassId) (a : Nat → Nat) (m : Nat → Nat → Int32) : va_W := [(a 0, .inr (0, [.int (m 9 0), .int (m 9 1), .int (m 9 2), .int (m 9 3), .ref (a 1), .ref (a 2), .ref (a 3), .ref (a 4), .ref (a 5), .ref (a 6), .ref (a 7), .ref (a 8), .ref (a 9)])), (a 1, .inl (cI, 6, .inl (m 0))), (a 2, .inl (cI, 6, .inl (m 1))), (a 3, .inl (cI, 6, .inl (m 2))), (a 4, .inl (cI, 8, .inl (m 3))), (a 5, .inl (cI, 8, .inl (m 4))), (a 6, .inl (cI, 8, .inl (m 5))), (a 7, .inl (cI, 8, .inl (m 6))), (a 8, .inl (cI, 6, .inl (m 7))), (a 9, .inl (cI, 7, .inl (m 8)))]
def searchW (cI : ClassId) (a : Nat → Nat) (m : Nat → Nat → Int32) : va_W := [(a 0, .inr (1, [.ref (a 1), .ref (a 2), .int (m 2 0), .int (m 2 1), .int (m 2 2), .int (m 2 3)])), (a 1, .inl (cI, 4, .inl (m 0))), (a 2, .inl (cI, 4, .inl (m 1)))]
def sheetW (cI : ClassId) (a : Nat → Nat) (m : Nat → Nat → Int32) : va_W := [(a 0, .inr (2, [.ref (a 1), .int (m 1 0), .int (m 1 1)])), (a 1, .inl (cI, 24, .inl (m 0)))]
def tapeW (cI : ClassId) (a : Nat → Nat) (m : Nat → Nat → Int32) : va_W := [(a 0, .inr (3, [.ref (a 1), .int (m 1 0), .int (m 1 1), .int (m 1 2)])), (a 1, .inl (cI, 120, .inl (m 0)))]
def loftW (cI cS : ClassId) (a : Nat → Nat) (m v w : Nat → Nat → Int32) (th t : Nat → Nat → Int32) (sh : Nat → Nat → Nat → Int32) (kf : Int32) : va_W :=
  (a 0, .inr (4, [.ref (a 1), .ref (a 11), .ref (a 21), .int kf, .ref (a 31), .ref (a 34), .ref (a 36)])) :: (millW cI (fun i => a (i + 1)) m ++ (millW cI (fun i => a (i + 11)) v ++ (millW cI (fun i => a (i + 21)) w ++ (searchW cI (fun i => a (i + 31)) th ++ (tapeW cI (fun i => a (i + 34)) t ++
  ((a 36, .inl (cS, 4, .inr (.inr (.inr (.inr (fun k => if k < 4 then some (a (37 + 2 * k)) else none)))))) :: (sheetW cI (fun i => a (i + 37)) (sh 0) ++ (sheetW cI (fun i => a (i + 39)) (sh 1) ++ (sheetW cI (fun i => a (i + 41)) (sh 2) ++ sheetW cI (fun i => a (i + 43)) (sh 3))))))))))
def modelW (cI : ClassId) (a : Nat → Nat) (m : Nat → Nat → Int32) : va_W := [(a 0, .inr (5, [.ref (a 1), .ref (a 2), .ref (a 3), .int (m 18 0), .ref (a 4), .int (m 18 1), .ref (a 5), .int (m 18 2), .int (m 18 3), .ref (a 6), .int (m 18 4), .int (m 18 5), .int (m 18 6), .ref (a 7), .ref (a 8), .int (m 18 7), .ref (a 9), .ref (a 10), .ref (a 11), .int (m 18 8), .int (m 18 9), .ref (a 12), .int (m 18 10), .int (m 18 11), .int (m 18 12), .ref (a 13), .int (m 18 13), .ref (a 14), .ref (a 15), .ref (a 16), .ref (a 17), .ref (a 18)])), (a 1, .inl (cI, 6, .inl (m 0))), (a 2, .inl (cI, 6, .inl (m 1))), (a 3, .inl (cI, 6, .inl (m 2))), (a 4, .inl (cI, 32, .inl (m 3))), (a 5, .inl (cI, 6, .inl (m 4))), (a 6, .inl (cI, 120, .inl (m 5))), (a 7, .inl (cI, 32, .inl (m 6))), (a 8, .inl (cI, 6, .inl (m 7))), (a 9, .inl (cI, 8, .inl (m 8))), (a 10, .inl (cI, 8, .inl (m 9))), (a 11, .inl (cI, 6, .inl (m 10))), (a 12, .inl (cI, 6, .inl (m 11))), (a 13, .inl (cI, 4, .inl (m 12))), (a 14, .inl (cI, 60, .inl (m 13))), (a 15, .inl (cI, 4, .inl (m 14))), (a 16, .inl (cI, 4, .inl (m 15))), (a 17, .inl (cI, 96, .inl (m 16))), (a 18, .inl (cI, 24, .inl (m 17)))]
section GON
variable {E : CX} {Q : State → Prop} {cI cS : ClassId} {own : String} {cc : ByteArray} {ret : Option FieldType} {nL cells slots pc d mc ms : Nat} {lv : List (Nat × Value)} {st : List Value} {ws : va_W}
theorem nI_imul (a b : Nat) : nI a * nI b = nI (a * b) := by
  unfold nI; exact (Int32.ofNat_mul a b).symm
theorem g_iadd_n (hE : CxOk E cI cS own cc nL ret d mc ms) {x y : Int32} {i j : Nat} (hd : decode cc pc = .ok (.iadd, 1)) (hx : x = nI i) (hy : y = nI j) (kk : Go E Q nL cells slots (pc + 1) lv (.int (nI (i + j)) :: st) ws) : Go E Q nL cells slots pc lv (.int y :: .int x :: st) ws := by
  subst hx; subst hy
  exact g_iadd hE hd (by rw [nI_add]; exact kk)
theorem g_imul_n (hE : CxOk E cI cS own cc nL ret d mc ms) {x y : Int32} {i j : Nat} (hd : decode cc pc = .ok (.imul, 1)) (hx : x = nI i) (hy : y = nI j) (kk : Go E Q nL cells slots (pc + 1) lv (.int (nI (i * j)) :: st) ws) : Go E Q nL cells slots pc lv (.int y :: .int x :: st) ws := by
  subst hx; subst hy
  exact g_imul hE hd (by rw [nI_imul]; exact kk)
theorem nI_isub {i j : Nat} (h : j ≤ i) : nI i - nI j = nI (i - j) := by
  have e : nI i = nI (i - j) + nI j := by rw [nI_add, Nat.sub_add_cancel h]
  rw [e, Int32.add_sub_cancel]
theorem g_isub_n (hE : CxOk E cI cS own cc nL ret d mc ms) {x y : Int32} {i j : Nat} (hd : decode cc pc = .ok (.isub, 1)) (hx : x = nI i) (hy : y = nI j) (h : j ≤ i) (kk : Go E Q nL cells slots (pc + 1) lv (.int (nI (i - j)) :: st) ws) : Go E Q nL cells slots pc lv (.int y :: .int x :: st) ws := by
  subst hx; subst hy
  exact g_isub hE hd (by rw [nI_isub h]; exact kk)
theorem g_iald_n (hE : CxOk E cI cS own cc nL ret d mc ms) (hd : decode cc pc = .ok (.iaload, 1)) {a n : Nat} {f : Nat → Int32} {i : Int32} {g : Nat} (q0 : Nat) (ha : ws[q0]? = some (a, .inl (cI, n, .inl f))) (hi : i = nI g) (hg : g < n) (kk : Go E Q nL cells slots (pc + 1) lv (.int (f g) :: st) ws) (hn : n < 2 ^ 31 := by decide) : Go E Q nL cells slots pc lv (.int i :: .ref a :: st) ws := by
  subst hi
  refine g_iald hE hd q0 ha (vp_in_nI hg hn) ?_
  rw [nI_clamp (by omega)]
  exact kk
theorem g_iast_n (hE : CxOk E cI cS own cc nL ret d mc ms) (hd : decode cc pc = .ok (.iastore, 1)) {a n : Nat} {f : Nat → Int32} {i x : Int32} {g : Nat} (q0 : Nat) (ha : ws[q0]? = some (a, .inl (cI, n, .inl f))) (hi : i = nI g) (hg : g < n) (ws' : va_W) (hw : ws.set q0 (a, .inl (cI, n, .inl (upd f g x))) = ws') (kk : Go E Q nL cells slots (pc + 1) lv st ws') (hn : n < 2 ^ 31 := by decide) : Go E Q nL cells slots pc lv (.int x :: .int i :: .ref a :: st) ws := by
  subst hi
  exact g_iast hE hd q0 ha (vp_in_nI hg hn) ws' (by rw [nI_clamp (by omega)]; exact hw) kk
end GON
end
section
/-! the class' static helpers -/
theorem vp_in_i {i : Int32} {n : Nat} (h : 0 ≤ i) (h2 : i < nI n) (hn : n < 2 ^ 31) : vp_in i n := by
  rw [vp_in_iff]
  rw [Int32.le_iff_toInt_le] at h
  rw [Int32.lt_iff_toInt_lt, nI_toInt hn] at h2
  exact ⟨h, h2⟩
/-- a list's value, 0 off it -/
def atv (f : Nat → Int32) (n : Nat) (i : Int32) : Int32 := if 0 ≤ i ∧ i < nI n then f i.toNatClampNeg else 0
def putv (f : Nat → Int32) (n : Nat) (i v : Int32) : Nat → Int32 := if 0 ≤ i ∧ i < nI n then upd f i.toNatClampNeg v else f
theorem atv_n {f : Nat → Int32} {n g : Nat} (h : g < n) (hn : n < 2 ^ 31) : atv f n (nI g) = f g := by
  unfold atv
  rw [if_pos ⟨nI_pos' (by omega), nI_lt h hn⟩, nI_clamp (by omega)]
theorem putv_n {f : Nat → Int32} {n g : Nat} {v : Int32} (h : g < n) (hn : n < 2 ^ 31) : putv f n (nI g) v = upd f g v := by
  unfold putv
  rw [if_pos ⟨nI_pos' (by omega), nI_lt h hn⟩, nI_clamp (by omega)]
set_option maxHeartbeats 4000000 in
set_option maxRecDepth 100000 in
theorem c_X4_within (cI cS : ClassId) (v lo hi : Int32) : CT cI cS yX4_within cX4_within 3 (some .boolean) 0 [.int v, .int lo, .int hi] ([] : va_W) 0 0 (fun u : Int32 => u = if lo ≤ v ∧ v ≤ hi then 1 else 0) (fun u => some (.int u)) (fun u => ([] : va_W)) := by
  refine ct_intro (by decide) (Nat.le_of_ble_eq_true rfl) (fun E Q hE hQ hI => ?_)
  have hE : CxOk E cI cS RX4 cX4_within 3 (some .boolean) 0 0 0 := hE
  show Go E Q 3 0 0 0 [(0, .int v), (1, .int lo), (2, .int hi)] [] ([] : va_W)
  refine g_iload_n hE dX4_within_0 0 rfl ?_
  refine g_iload_n hE dX4_within_1 1 rfl ?_
  refine g_icmp_lt hE 14 dX4_within_2 (by decide) (fun c1 => ?_) (fun c1 => ?_)
  · refine g_iconst hE dX4_within_14 0 (by decide) ?_
    exact g_iret hE hQ dX4_within_15 (by first | rfl | decide) 0 rfl rfl (if_neg (fun q => by obtain ⟨q1, q2⟩ := q; first | exact absurd q1 (by assumption) | exact absurd q2 (by assumption) | exact absurd q1 (Int32.not_lt.mpr (by assumption)) | exact absurd q2 (Int32.not_lt.mpr (by assumption)) | exact absurd q1 (Int32.not_le.mpr (by assumption)) | exact absurd q2 (Int32.not_le.mpr (by assumption)))).symm
  · refine g_iload_n hE dX4_within_5 0 rfl ?_
    refine g_iload_n hE dX4_within_6 2 rfl ?_
    refine g_icmp_gt hE 14 dX4_within_7 (by decide) (fun c2 => ?_) (fun c2 => ?_)
    · refine g_iconst hE dX4_within_14 0 (by decide) ?_
      exact g_iret hE hQ dX4_within_15 (by first | rfl | decide) 0 rfl rfl (if_neg (fun q => by obtain ⟨q1, q2⟩ := q; first | exact absurd q1 (by assumption) | exact absurd q2 (by assumption) | exact absurd q1 (Int32.not_lt.mpr (by assumption)) | exact absurd q2 (Int32.not_lt.mpr (by assumption)) | exact absurd q1 (Int32.not_le.mpr (by assumption)) | exact absurd q2 (Int32.not_le.mpr (by assumption)))).symm
    · refine g_iconst hE dX4_within_10 1 (by decide) ?_
      refine g_goto hE 15 dX4_within_11 (by decide) ?_
      exact g_iret hE hQ dX4_within_15 (by first | rfl | decide) 1 rfl rfl (if_pos (by (repeat' apply And.intro) <;> first | assumption | exact Int32.not_lt.mp (by assumption) | exact Int32.not_le.mp (by assumption))).symm
set_option maxHeartbeats 4000000 in
set_option maxRecDepth 100000 in
theorem c_X4_at (cI cS : ClassId) (q n : Nat) (f : Nat → Int32) (i : Int32) (hn : n < 2 ^ 31) : CT cI cS yX4_at cX4_at 2 (some .int) 0 [.ref q, .int i] ([(q, .inl (cI, n, .inl f))]) 0 0 (fun u : Int32 => u = atv f n i) (fun u => some (.int u)) (fun u => ([(q, .inl (cI, n, .inl f))])) := by
  refine ct_intro (by decide) (Nat.le_of_ble_eq_true rfl) (fun E Q hE hQ hI => ?_)
  have hE : CxOk E cI cS RX4 cX4_at 2 (some .int) 0 0 0 := hE
  show Go E Q 2 0 0 0 [(0, .ref q), (1, .int i)] [] ([(q, .inl (cI, n, .inl f))])
  refine g_iload_n hE dX4_at_0 1 rfl ?_
  refine g_if_lt hE 16 dX4_at_1 (by decide) (fun c1 => ?_) (fun c1 => ?_)
  · refine g_iconst hE dX4_at_16 0 (by decide) ?_
    exact g_iret hE hQ dX4_at_17 rfl 0 rfl rfl (by unfold atv; first | rw [if_pos ⟨by first | assumption | exact Int32.not_lt.mp (by assumption), by first | assumption | exact Int32.not_le.mp (by assumption)⟩] | rw [if_neg (fun q => by obtain ⟨q1, q2⟩ := q; first | exact absurd q1 (by assumption) | exact absurd q2 (by assumption) | exact absurd q1 (Int32.not_lt.mpr (by assumption)) | exact absurd q2 (Int32.not_lt.mpr (by assumption)) | exact absurd q1 (Int32.not_le.mpr (by assumption)) | exact absurd q2 (Int32.not_le.mpr (by assumption)))])
  · refine g_iload_n hE dX4_at_4 1 rfl ?_
    refine g_aload_n hE dX4_at_5 0 rfl ?_
    refine g_alen hE dX4_at_6 0 (nI n) rfl rfl ?_
    refine g_icmp_ge hE 16 dX4_at_7 (by decide) (fun c2 => ?_) (fun c2 => ?_)
    · refine g_iconst hE dX4_at_16 0 (by decide) ?_
      exact g_iret hE hQ dX4_at_17 rfl 0 rfl rfl (by unfold atv; first | rw [if_pos ⟨by first | assumption | exact Int32.not_lt.mp (by assumption), by first | assumption | exact Int32.not_le.mp (by assumption)⟩] | rw [if_neg (fun q => by obtain ⟨q1, q2⟩ := q; first | exact absurd q1 (by assumption) | exact absurd q2 (by assumption) | exact absurd q1 (Int32.not_lt.mpr (by assumption)) | exact absurd q2 (Int32.not_lt.mpr (by assumption)) | exact absurd q1 (Int32.not_le.mpr (by assumption)) | exact absurd q2 (Int32.not_le.mpr (by assumption)))])
    · refine g_aload_n hE dX4_at_10 0 rfl ?_
      refine g_iload_n hE dX4_at_11 1 rfl ?_
      refine g_iald hE dX4_at_12 0 rfl (vp_in_i (Int32.not_lt.mp (by assumption)) (Int32.not_le.mp (by assumption)) hn) ?_
      refine g_goto hE 17 dX4_at_13 (by decide) ?_
      exact g_iret hE hQ dX4_at_17 rfl (f (Int32.toNatClampNeg i)) rfl rfl (by unfold atv; first | rw [if_pos ⟨by first | assumption | exact Int32.not_lt.mp (by assumption), by first | assumption | exact Int32.not_le.mp (by assumption)⟩] | rw [if_neg (fun q => by obtain ⟨q1, q2⟩ := q; first | exact absurd q1 (by assumption) | exact absurd q2 (by assumption) | exact absurd q1 (Int32.not_lt.mpr (by assumption)) | exact absurd q2 (Int32.not_lt.mpr (by assumption)) | exact absurd q1 (Int32.not_le.mpr (by assumption)) | exact absurd q2 (Int32.not_le.mpr (by assumption)))])
set_option maxHeartbeats 4000000 in
set_option maxRecDepth 100000 in
theorem c_X4_put (cI cS : ClassId) (q n : Nat) (f : Nat → Int32) (i v : Int32) (hn : n < 2 ^ 31) : CT cI cS yX4_put cX4_put 3 none 0 [.ref q, .int i, .int v] ([(q, .inl (cI, n, .inl f))]) 0 0 (fun u : (Nat → Int32) => u = putv f n i v) (fun u => none) (fun u => ([(q, .inl (cI, n, .inl u))])) := by
  refine ct_intro (by decide) (Nat.le_of_ble_eq_true rfl) (fun E Q hE hQ hI => ?_)
  have hE : CxOk E cI cS RX4 cX4_put 3 none 0 0 0 := hE
  show Go E Q 3 0 0 0 [(0, .ref q), (1, .int i), (2, .int v)] [] ([(q, .inl (cI, n, .inl f))])
  refine g_iload_n hE dX4_put_0 1 rfl ?_
  refine g_if_lt hE 14 dX4_put_1 (by decide) (fun c1 => ?_) (fun c1 => ?_)
  · exact g_vret hE hQ dX4_put_14 f rfl rfl (by unfold putv; first | rw [if_pos ⟨by first | assumption | exact Int32.not_lt.mp (by assumption), by first | assumption | exact Int32.not_le.mp (by assumption)⟩] | rw [if_neg (fun q => by obtain ⟨q1, q2⟩ := q; first | exact absurd q1 (by assumption) | exact absurd q2 (by assumption) | exact absurd q1 (Int32.not_lt.mpr (by assumption)) | exact absurd q2 (Int32.not_lt.mpr (by assumption)) | exact absurd q1 (Int32.not_le.mpr (by assumption)) | exact absurd q2 (Int32.not_le.mpr (by assumption)))])
  · refine g_iload_n hE dX4_put_4 1 rfl ?_
    refine g_aload_n hE dX4_put_5 0 rfl ?_
    refine g_alen hE dX4_put_6 0 (nI n) rfl rfl ?_
    refine g_icmp_ge hE 14 dX4_put_7 (by decide) (fun c2 => ?_) (fun c2 => ?_)
    · exact g_vret hE hQ dX4_put_14 f rfl rfl (by unfold putv; first | rw [if_pos ⟨by first | assumption | exact Int32.not_lt.mp (by assumption), by first | assumption | exact Int32.not_le.mp (by assumption)⟩] | rw [if_neg (fun q => by obtain ⟨q1, q2⟩ := q; first | exact absurd q1 (by assumption) | exact absurd q2 (by assumption) | exact absurd q1 (Int32.not_lt.mpr (by assumption)) | exact absurd q2 (Int32.not_lt.mpr (by assumption)) | exact absurd q1 (Int32.not_le.mpr (by assumption)) | exact absurd q2 (Int32.not_le.mpr (by assumption)))])
    · refine g_aload_n hE dX4_put_10 0 rfl ?_
      refine g_iload_n hE dX4_put_11 1 rfl ?_
      refine g_iload_n hE dX4_put_12 2 rfl ?_
      refine g_iast hE dX4_put_13 0 rfl (vp_in_i (Int32.not_lt.mp (by assumption)) (Int32.not_le.mp (by assumption)) hn) ([(q, .inl (cI, n, .inl (upd f (Int32.toNatClampNeg i) v)))]) rfl ?_
      exact g_vret hE hQ dX4_put_14 (upd f (Int32.toNatClampNeg i) v) rfl rfl (by unfold putv; first | rw [if_pos ⟨by first | assumption | exact Int32.not_lt.mp (by assumption), by first | assumption | exact Int32.not_le.mp (by assumption)⟩] | rw [if_neg (fun q => by obtain ⟨q1, q2⟩ := q; first | exact absurd q1 (by assumption) | exact absurd q2 (by assumption) | exact absurd q1 (Int32.not_lt.mpr (by assumption)) | exact absurd q2 (Int32.not_lt.mpr (by assumption)) | exact absurd q1 (Int32.not_le.mpr (by assumption)) | exact absurd q2 (Int32.not_le.mpr (by assumption)))])
end
section
/-! pure facts: natural numbers as ints, sets of grains as numbers, the mill's own functions -/
theorem nat_lt_t {x y : Int32} {a b : Nat} (hx : x = nI a) (hy : y = nI b) (ha : a < 2 ^ 31) (hb : b < 2 ^ 31) (h : x < y) : a < b := by subst hx; subst hy; exact (nI_ltI ha hb).mp h
theorem nat_lt_f {x y : Int32} {a b : Nat} (hx : x = nI a) (hy : y = nI b) (ha : a < 2 ^ 31) (hb : b < 2 ^ 31) (h : ¬ x < y) : b ≤ a := by subst hx; subst hy; rw [nI_ltI ha hb] at h; omega
theorem nat_le_t {x y : Int32} {a b : Nat} (hx : x = nI a) (hy : y = nI b) (ha : a < 2 ^ 31) (hb : b < 2 ^ 31) (h : x ≤ y) : a ≤ b := by subst hx; subst hy; exact (nI_leI ha hb).mp h
theorem nat_le_f {x y : Int32} {a b : Nat} (hx : x = nI a) (hy : y = nI b) (ha : a < 2 ^ 31) (hb : b < 2 ^ 31) (h : ¬ x ≤ y) : b < a := by subst hx; subst hy; rw [nI_leI ha hb] at h; omega
theorem nat_eq_t {x y : Int32} {a b : Nat} (hx : x = nI a) (hy : y = nI b) (ha : a < 2 ^ 31) (hb : b < 2 ^ 31) (h : x = y) : a = b := by subst hx; subst hy; exact (nI_eq ha hb).mp h
theorem nat_eq_f {x y : Int32} {a b : Nat} (hx : x = nI a) (hy : y = nI b) (ha : a < 2 ^ 31) (hb : b < 2 ^ 31) (h : ¬ x = y) : a ≠ b := by subst hx; subst hy; rwa [nI_eq ha hb] at h
/-- a set of numbers below k, as bits -/
def bs (p : Nat → Bool) : Nat → Nat
  | 0 => 0
  | k + 1 => bs p k + (if p k then 2 ^ k else 0)
theorem bs_lt (p : Nat → Bool) : ∀ k, bs p k < 2 ^ k
  | 0 => by show 0 < 1; decide
  | k + 1 => by
    have h := bs_lt p k
    unfold bs
    rw [Nat.pow_succ]
    split <;> omega
theorem bs_lt64 (p : Nat → Bool) {k : Nat} (h : k ≤ 6) : bs p k < 64 := Nat.lt_of_lt_of_le (bs_lt p k) (Nat.le_trans (Nat.pow_le_pow_right (by decide) h) (by decide))
theorem add_bit {s k j : Nat} (h : s < 2 ^ k) : (s + 2 ^ k).testBit j = (s.testBit j || decide (j = k)) := by
  have e : s + 2 ^ k = 2 ^ k * 1 + s := by omega
  rw [e, Nat.two_pow_add_eq_or_of_lt h, Nat.testBit_or, Nat.mul_one, Nat.testBit_two_pow]
  rw [Bool.or_comm]
  congr 1
  exact decide_eq_decide.mpr ⟨fun h => h.symm, fun h => h.symm⟩
theorem bs_bit (p : Nat → Bool) (j : Nat) : ∀ k, (bs p k).testBit j = (decide (j < k) && p j)
  | 0 => by simp [bs]
  | k + 1 => by
    have ih := bs_bit p j k
    unfold bs
    by_cases hp : p k = true
    · rw [if_pos hp, add_bit (bs_lt p k), ih]
      by_cases h : j = k
      · subst h; simp [hp]
      · by_cases h2 : j < k
        · simp [h, h2, show j < k + 1 by omega]
        · simp [h, h2, show ¬ j < k + 1 by omega]
    · have hp : p k = false := by simpa using hp
      rw [hp]
      simp only [Bool.false_eq_true, if_false, Nat.add_zero, ih]
      by_cases h : j = k
      · subst h; simp [hp]
      · by_cases h2 : j < k
        · simp [h2, show j < k + 1 by omega]
        · simp [h2, show ¬ j < k + 1 by omega]
theorem bs_cong {p q : Nat → Bool} : ∀ {k : Nat}, (∀ j, j < k → p j = q j) → bs p k = bs q k
  | 0, _ => rfl
  | k + 1, h => by
    unfold bs
    rw [bs_cong (fun j hj => h j (by omega)), h k (by omega)]
theorem i_or (a b : Nat) : nI a ||| nI b = nI (a ||| b) := by
  apply Int32.toBitVec_inj.mp
  show (nI a).toBitVec ||| (nI b).toBitVec = (nI (a ||| b)).toBitVec
  apply BitVec.eq_of_toNat_eq
  show ((BitVec.ofNat 32 a) ||| (BitVec.ofNat 32 b)).toNat = (BitVec.ofNat 32 (a ||| b)).toNat
  simp [BitVec.toNat_or, BitVec.toNat_ofNat, Nat.or_mod_two_pow]
theorem or_bit {z : Int32} {s g : Nat} (hz : z = nI s) (hs : s < 2 ^ g) (hg : g < 31) : z ||| ((1 : Int32) <<< (nI g &&& 31)) = nI (s + 2 ^ g) := by
  subst hz
  have e1 : (1 : Int32) <<< (nI g &&& 31) = nI (2 ^ g) := by
    have hk : ∀ g, g < 31 → (1 : Int32) <<< (nI g &&& 31) = nI (2 ^ g) := by decide +kernel
    exact hk g hg
  rw [e1]
  have e2 : nI s ||| nI (2 ^ g) = nI (s ||| 2 ^ g) := by
    exact i_or _ _
  rw [e2]
  congr 1
  have e : s + 2 ^ g = 2 ^ g * 1 + s := by omega
  rw [e, Nat.two_pow_add_eq_or_of_lt hs, Nat.mul_one, Nat.or_comm]
theorem bit_64 : ∀ s, s < 64 → ∀ g, g < 6 → (((nI s >>> (nI g &&& 31)) &&& 1 = 0) ↔ s.testBit g = false) := by decide +kernel
theorem bit_t {z : Int32} {s g : Nat} (hz : z = nI s) (hs : s < 64) (hg : g < 6) (h : ¬ ((z >>> (nI g &&& 31)) &&& 1) = 0) : s.testBit g = true := by
  subst hz
  rw [bit_64 s hs g hg] at h
  simpa using h
theorem bit_f {z : Int32} {s g : Nat} (hz : z = nI s) (hs : s < 64) (hg : g < 6) (h : ((z >>> (nI g &&& 31)) &&& 1) = 0) : s.testBit g = false := by
  subst hz
  exact (bit_64 s hs g hg).mp h
def nd (a b : Nat) : Nat := a ^^^ (a &&& b)
theorem nd_bit (a b j : Nat) : (nd a b).testBit j = (a.testBit j && !b.testBit j) := by
  unfold nd
  rw [Nat.testBit_xor, Nat.testBit_and]
  cases a.testBit j <;> cases b.testBit j <;> rfl
theorem nd_64 : ∀ a, a < 64 → ∀ b, b < 64 → nI a &&& (nI b ^^^ (-1)) = nI (nd a b) ∧ nd a b < 64 := by decide +kernel
theorem nd_lt {a b : Nat} (ha : a < 64) (hb : b < 64) : nd a b < 64 := (nd_64 a ha b hb).2
theorem nd_i {x y : Int32} {a b : Nat} (hx : x = nI a) (hy : y = nI b) (ha : a < 64) (hb : b < 64) : x &&& (y ^^^ (-1)) = nI (nd a b) := by subst hx; subst hy; exact (nd_64 a ha b hb).1
theorem set_ext {a b : Nat} (ha : a < 64) (hb : b < 64) (h : ∀ g, g < 6 → a.testBit g = b.testBit g) : a = b := by
  apply Nat.eq_of_testBit_eq
  intro i
  by_cases hi : i < 6
  · exact h i hi
  · have h1 : a < 2 ^ i := Nat.lt_of_lt_of_le ha (Nat.le_trans (by decide : 64 ≤ 2 ^ 6) (Nat.pow_le_pow_right (by decide) (by omega)))
    have h2 : b < 2 ^ i := Nat.lt_of_lt_of_le hb (Nat.le_trans (by decide : 64 ≤ 2 ^ 6) (Nat.pow_le_pow_right (by decide) (by omega)))
    rw [Nat.testBit_lt_two_pow h1, Nat.testBit_lt_two_pow h2]
/-- a mill's counts: grains, sieves, places of the row -/
def MW (m : Nat → Nat → Int32) (n sv pl : Nat) : Prop := m 9 0 = nI n ∧ n ≤ 6 ∧ m 9 1 = nI sv ∧ sv ≤ 8 ∧ m 9 2 = nI pl ∧ pl ≤ 6
/-- the load of a mill's first k grains -/
def ldS (m : Nat → Nat → Int32) (k : Nat) : Nat := bs (fun g => decide (0 < m 1 g)) k
theorem ldS_y {m : Nat → Nat → Int32} {z : Int32} {g : Nat} (hz : z = nI (ldS m g)) (hg : g < 6) (h : 0 < m 1 g) : z ||| ((1 : Int32) <<< (nI g &&& 31)) = nI (ldS m (g + 1)) := by
  rw [or_bit hz (bs_lt _ g) (by omega)]
  unfold ldS
  rw [bs, decide_eq_true h, if_pos rfl]
theorem ldS_n {m : Nat → Nat → Int32} {z : Int32} {g : Nat} (hz : z = nI (ldS m g)) (h : ¬ 0 < m 1 g) : z = nI (ldS m (g + 1)) := by
  rw [hz]
  unfold ldS
  rw [bs, decide_eq_false h]
  simp
/-- the amounts of a set together -/
def aS (f : Nat → Int32) (s : Nat) : Nat → Int32
  | 0 => 0
  | k + 1 => if s.testBit k then aS f s k + f k else aS f s k
/-- the least price in a set, 99 of none -/
def lS (f : Nat → Int32) (s : Nat) : Nat → Int32
  | 0 => 99
  | k + 1 => if s.testBit k then (if f k < lS f s k then f k else lS f s k) else lS f s k
theorem aS_y {f : Nat → Int32} {s g : Nat} {z : Int32} (hz : z = aS f s g) (h : s.testBit g = true) : z + f g = aS f s (g + 1) := by rw [aS, if_pos h, hz]
theorem aS_n {f : Nat → Int32} {s g : Nat} {z : Int32} (hz : z = aS f s g) (h : s.testBit g = false) : z = aS f s (g + 1) := by rw [aS, h, hz]; simp
theorem lS_y {f : Nat → Int32} {s g : Nat} {z : Int32} (hz : z = lS f s g) (h : s.testBit g = true) : (if f g < z then f g else z) = lS f s (g + 1) := by rw [lS, if_pos h, hz]
theorem lS_n {f : Nat → Int32} {s g : Nat} {z : Int32} (hz : z = lS f s g) (h : s.testBit g = false) : z = lS f s (g + 1) := by rw [lS, h, hz]; simp
def wS (m : Nat → Nat → Int32) (n s : Nat) : Int32 := aS (m 1) s n * lS (m 2) s n
/-- those of a set that are too big for a sieve -/
def bigS (m : Nat → Nat → Int32) (s : Int32) (came k : Nat) : Nat := bs (fun g => came.testBit g && !decide (atv (m 3) 8 s = 3 ∨ m 0 g ≤ atv (m 4) 8 s)) k
theorem bigS_y {m : Nat → Nat → Int32} {s z : Int32} {came g : Nat} (hz : z = nI (bigS m s came g)) (hg : g < 6) (h1 : came.testBit g = true) (h2 : ¬ (atv (m 3) 8 s = 3 ∨ m 0 g ≤ atv (m 4) 8 s)) : z ||| ((1 : Int32) <<< (nI g &&& 31)) = nI (bigS m s came (g + 1)) := by
  rw [or_bit hz (bs_lt _ g) (by omega)]
  unfold bigS
  rw [bs, h1, decide_eq_false h2]
  simp
theorem bigS_n1 {m : Nat → Nat → Int32} {s z : Int32} {came g : Nat} (hz : z = nI (bigS m s came g)) (h1 : came.testBit g = false) : z = nI (bigS m s came (g + 1)) := by
  rw [hz]
  unfold bigS
  rw [bs, h1]
  simp
theorem bigS_n2 {m : Nat → Nat → Int32} {s z : Int32} {came g : Nat} (hz : z = nI (bigS m s came g)) (h2 : atv (m 3) 8 s = 3 ∨ m 0 g ≤ atv (m 4) 8 s) : z = nI (bigS m s came (g + 1)) := by
  rw [hz]
  unfold bigS
  rw [bs, decide_eq_true h2]
  simp
def fallS (m : Nat → Nat → Int32) (n : Nat) (s : Int32) (came : Nat) : Nat := if atv (m 5) 8 s < aS (m 1) (bigS m s came n) n then 0 else nd came (bigS m s came n)
theorem fallS_lt {m : Nat → Nat → Int32} {n : Nat} {s : Int32} {came : Nat} (hn : n ≤ 6) (hc : came < 64) : fallS m n s came < 64 := by
  unfold fallS
  split
  · decide
  · exact nd_lt hc (bs_lt64 _ hn)
/-- what comes to the p-th place of a row -/
def cmS (m : Nat → Nat → Int32) (n : Nat) (row : Nat → Int32) : Nat → Nat
  | 0 => ldS m n
  | p + 1 => fallS m n (row p) (cmS m n row p)
theorem cmS_lt {m : Nat → Nat → Int32} {n : Nat} {row : Nat → Int32} (hn : n ≤ 6) : ∀ p, cmS m n row p < 64
  | 0 => bs_lt64 _ hn
  | p + 1 => fallS_lt hn (cmS_lt hn p)
/-- the heap at the p-th place of a row of l sieves -/
def hpS (m : Nat → Nat → Int32) (n : Nat) (row : Nat → Int32) (l p : Nat) : Nat := if p < l then nd (cmS m n row p) (cmS m n row (p + 1)) else cmS m n row l
theorem hpS_lt {m : Nat → Nat → Int32} {n : Nat} {row : Nat → Int32} {l p : Nat} (hn : n ≤ 6) : hpS m n row l p < 64 := by
  unfold hpS
  split
  · exact nd_lt (cmS_lt hn _) (cmS_lt hn _)
  · exact cmS_lt hn _
end
section
/-! the mill: reads -/
set_option maxHeartbeats 4000000 in
set_option maxRecDepth 100000 in
theorem c_X0_hasGrain (cI cS : ClassId) (a : Nat → Nat) (m : Nat → Nat → Int32) {n sv pl : Nat} (hM : MW m n sv pl) (g : Int32) : CT cI cS yX0_hasGrain cX0_hasGrain 2 (some .boolean) 0 [.ref (a 0), .int g] (millW cI a m) 0 0 (fun u : Int32 => u = if 0 ≤ g ∧ g < m 9 0 then 1 else 0) (fun u => some (.int u)) (fun u => (millW cI a m)) := by
  refine ct_intro (by decide) (Nat.le_of_ble_eq_true rfl) (fun E Q hE hQ hI => ?_)
  have hE : CxOk E cI cS RX0 cX0_hasGrain 2 (some .boolean) 0 0 0 := hE
  show Go E Q 2 0 0 0 [(0, .ref (a 0)), (1, .int g)] [] (millW cI a m)
  have hn := hM.1
  have hn6 := hM.2.1
  have hsv := hM.2.2.1
  have hsv8 := hM.2.2.2.1
  have hpl := hM.2.2.2.2.1
  have hpl6 := hM.2.2.2.2.2
  refine g_iload_n hE dX0_hasGrain_0 1 rfl ?_
  refine g_if_lt hE 16 dX0_hasGrain_1 (by decide) (fun c1 => ?_) (fun c1 => ?_)
  · refine g_iconst hE dX0_hasGrain_16 0 (by decide) ?_
    exact g_iret hE hQ dX0_hasGrain_17 (by first | rfl | decide) 0 rfl rfl (if_neg (fun q => by obtain ⟨q1, q2⟩ := q; first | exact absurd q1 (by assumption) | exact absurd q2 (by assumption) | exact absurd q1 (Int32.not_lt.mpr (by assumption)) | exact absurd q2 (Int32.not_lt.mpr (by assumption)) | exact absurd q1 (Int32.not_le.mpr (by assumption)) | exact absurd q2 (Int32.not_le.mpr (by assumption)))).symm
  · refine g_iload_n hE dX0_hasGrain_4 1 rfl ?_
    refine g_aload_n hE dX0_hasGrain_5 0 rfl ?_
    refine g_get hE fl_X0_39 dX0_hasGrain_6 0 rfl rfl ?_
    refine g_icmp_ge hE 16 dX0_hasGrain_9 (by decide) (fun c2 => ?_) (fun c2 => ?_)
    · refine g_iconst hE dX0_hasGrain_16 0 (by decide) ?_
      exact g_iret hE hQ dX0_hasGrain_17 (by first | rfl | decide) 0 rfl rfl (if_neg (fun q => by obtain ⟨q1, q2⟩ := q; first | exact absurd q1 (by assumption) | exact absurd q2 (by assumption) | exact absurd q1 (Int32.not_lt.mpr (by assumption)) | exact absurd q2 (Int32.not_lt.mpr (by assumption)) | exact absurd q1 (Int32.not_le.mpr (by assumption)) | exact absurd q2 (Int32.not_le.mpr (by assumption)))).symm
    · refine g_iconst hE dX0_hasGrain_12 1 (by decide) ?_
      refine g_goto hE 17 dX0_hasGrain_13 (by decide) ?_
      exact g_iret hE hQ dX0_hasGrain_17 (by first | rfl | decide) 1 rfl rfl (if_pos (by (repeat' apply And.intro) <;> first | assumption | exact Int32.not_lt.mp (by assumption) | exact Int32.not_le.mp (by assumption))).symm
set_option maxHeartbeats 4000000 in
set_option maxRecDepth 100000 in
theorem c_X0_hasSieve (cI cS : ClassId) (a : Nat → Nat) (m : Nat → Nat → Int32) {n sv pl : Nat} (hM : MW m n sv pl) (g : Int32) : CT cI cS yX0_hasSieve cX0_hasSieve 2 (some .boolean) 0 [.ref (a 0), .int g] (millW cI a m) 0 0 (fun u : Int32 => u = if 0 ≤ g ∧ g < m 9 1 then 1 else 0) (fun u => some (.int u)) (fun u => (millW cI a m)) := by
  refine ct_intro (by decide) (Nat.le_of_ble_eq_true rfl) (fun E Q hE hQ hI => ?_)
  have hE : CxOk E cI cS RX0 cX0_hasSieve 2 (some .boolean) 0 0 0 := hE
  show Go E Q 2 0 0 0 [(0, .ref (a 0)), (1, .int g)] [] (millW cI a m)
  have hn := hM.1
  have hn6 := hM.2.1
  have hsv := hM.2.2.1
  have hsv8 := hM.2.2.2.1
  have hpl := hM.2.2.2.2.1
  have hpl6 := hM.2.2.2.2.2
  refine g_iload_n hE dX0_hasSieve_0 1 rfl ?_
  refine g_if_lt hE 16 dX0_hasSieve_1 (by decide) (fun c1 => ?_) (fun c1 => ?_)
  · refine g_iconst hE dX0_hasSieve_16 0 (by decide) ?_
    exact g_iret hE hQ dX0_hasSieve_17 (by first | rfl | decide) 0 rfl rfl (if_neg (fun q => by obtain ⟨q1, q2⟩ := q; first | exact absurd q1 (by assumption) | exact absurd q2 (by assumption) | exact absurd q1 (Int32.not_lt.mpr (by assumption)) | exact absurd q2 (Int32.not_lt.mpr (by assumption)) | exact absurd q1 (Int32.not_le.mpr (by assumption)) | exact absurd q2 (Int32.not_le.mpr (by assumption)))).symm
  · refine g_iload_n hE dX0_hasSieve_4 1 rfl ?_
    refine g_aload_n hE dX0_hasSieve_5 0 rfl ?_
    refine g_get hE fl_X0_43 dX0_hasSieve_6 0 rfl rfl ?_
    refine g_icmp_ge hE 16 dX0_hasSieve_9 (by decide) (fun c2 => ?_) (fun c2 => ?_)
    · refine g_iconst hE dX0_hasSieve_16 0 (by decide) ?_
      exact g_iret hE hQ dX0_hasSieve_17 (by first | rfl | decide) 0 rfl rfl (if_neg (fun q => by obtain ⟨q1, q2⟩ := q; first | exact absurd q1 (by assumption) | exact absurd q2 (by assumption) | exact absurd q1 (Int32.not_lt.mpr (by assumption)) | exact absurd q2 (Int32.not_lt.mpr (by assumption)) | exact absurd q1 (Int32.not_le.mpr (by assumption)) | exact absurd q2 (Int32.not_le.mpr (by assumption)))).symm
    · refine g_iconst hE dX0_hasSieve_12 1 (by decide) ?_
      refine g_goto hE 17 dX0_hasSieve_13 (by decide) ?_
      exact g_iret hE hQ dX0_hasSieve_17 (by first | rfl | decide) 1 rfl rfl (if_pos (by (repeat' apply And.intro) <;> first | assumption | exact Int32.not_lt.mp (by assumption) | exact Int32.not_le.mp (by assumption))).symm
set_option maxHeartbeats 4000000 in
set_option maxRecDepth 100000 in
theorem c_X0_hasHeap (cI cS : ClassId) (a : Nat → Nat) (m : Nat → Nat → Int32) {n sv pl : Nat} (hM : MW m n sv pl) (g : Int32) : CT cI cS yX0_hasHeap cX0_hasHeap 2 (some .boolean) 0 [.ref (a 0), .int g] (millW cI a m) 0 0 (fun u : Int32 => u = if 0 ≤ g ∧ g ≤ m 9 2 then 1 else 0) (fun u => some (.int u)) (fun u => (millW cI a m)) := by
  refine ct_intro (by decide) (Nat.le_of_ble_eq_true rfl) (fun E Q hE hQ hI => ?_)
  have hE : CxOk E cI cS RX0 cX0_hasHeap 2 (some .boolean) 0 0 0 := hE
  show Go E Q 2 0 0 0 [(0, .ref (a 0)), (1, .int g)] [] (millW cI a m)
  have hn := hM.1
  have hn6 := hM.2.1
  have hsv := hM.2.2.1
  have hsv8 := hM.2.2.2.1
  have hpl := hM.2.2.2.2.1
  have hpl6 := hM.2.2.2.2.2
  refine g_iload_n hE dX0_hasHeap_0 1 rfl ?_
  refine g_if_lt hE 16 dX0_hasHeap_1 (by decide) (fun c1 => ?_) (fun c1 => ?_)
  · refine g_iconst hE dX0_hasHeap_16 0 (by decide) ?_
    exact g_iret hE hQ dX0_hasHeap_17 (by first | rfl | decide) 0 rfl rfl (if_neg (fun q => by obtain ⟨q1, q2⟩ := q; first | exact absurd q1 (by assumption) | exact absurd q2 (by assumption) | exact absurd q1 (Int32.not_lt.mpr (by assumption)) | exact absurd q2 (Int32.not_lt.mpr (by assumption)) | exact absurd q1 (Int32.not_le.mpr (by assumption)) | exact absurd q2 (Int32.not_le.mpr (by assumption)))).symm
  · refine g_iload_n hE dX0_hasHeap_4 1 rfl ?_
    refine g_aload_n hE dX0_hasHeap_5 0 rfl ?_
    refine g_get hE fl_X0_46 dX0_hasHeap_6 0 rfl rfl ?_
    refine g_icmp_gt hE 16 dX0_hasHeap_9 (by decide) (fun c2 => ?_) (fun c2 => ?_)
    · refine g_iconst hE dX0_hasHeap_16 0 (by decide) ?_
      exact g_iret hE hQ dX0_hasHeap_17 (by first | rfl | decide) 0 rfl rfl (if_neg (fun q => by obtain ⟨q1, q2⟩ := q; first | exact absurd q1 (by assumption) | exact absurd q2 (by assumption) | exact absurd q1 (Int32.not_lt.mpr (by assumption)) | exact absurd q2 (Int32.not_lt.mpr (by assumption)) | exact absurd q1 (Int32.not_le.mpr (by assumption)) | exact absurd q2 (Int32.not_le.mpr (by assumption)))).symm
    · refine g_iconst hE dX0_hasHeap_12 1 (by decide) ?_
      refine g_goto hE 17 dX0_hasHeap_13 (by decide) ?_
      exact g_iret hE hQ dX0_hasHeap_17 (by first | rfl | decide) 1 rfl rfl (if_pos (by (repeat' apply And.intro) <;> first | assumption | exact Int32.not_lt.mp (by assumption) | exact Int32.not_le.mp (by assumption))).symm
set_option maxHeartbeats 4000000 in
set_option maxRecDepth 100000 in
theorem c_X0_load (cI cS : ClassId) (a : Nat → Nat) (m : Nat → Nat → Int32) {n sv pl : Nat} (hM : MW m n sv pl) : CT cI cS yX0_load cX0_load 3 (some .int) 1 [.ref (a 0)] (millW cI a m) 0 0 (fun u : Int32 => u = nI (ldS m n)) (fun u => some (.int u)) (fun u => (millW cI a m)) := by
  refine ct_intro (by decide) (Nat.le_of_ble_eq_true rfl) (fun E Q hE hQ hI => ?_)
  have hE : CxOk E cI cS RX0 cX0_load 3 (some .int) 1 0 0 := hE
  show Go E Q 3 0 0 0 [(0, .ref (a 0))] [] (millW cI a m)
  have hn := hM.1
  have hn6 := hM.2.1
  have hsv := hM.2.2.1
  have hsv8 := hM.2.2.2.1
  have hpl := hM.2.2.2.2.1
  have hpl6 := hM.2.2.2.2.2
  refine g_iconst hE dX0_load_0 0 (by decide) ?_
  refine g_istore_n hE dX0_load_1 [(1, .int 0), (0, .ref (a 0))] rfl (by decide) rfl ?_
  refine g_iconst hE dX0_load_2 0 (by decide) ?_
  refine g_istore_n hE dX0_load_3 [(2, .int 0), (1, .int 0), (0, .ref (a 0))] rfl (by decide) rfl ?_
  have L4 : ∀ (n_4 : Nat) (g : Nat) (z : Int32), (g ≤ n) → (z = nI (ldS m g)) → (n - g < n_4) → Go E Q 3 0 0 4 [(0, .ref (a 0)), (1, .int z), (2, .int (nI g))] [] (millW cI a m) := by
    intro n_4
    induction n_4 with
    | zero => intro g z hg hz hm_4; exact absurd hm_4 (Nat.not_lt_zero _)
    | succ n_4 ih_4 =>
      intro g z hg hz hm_4
      refine g_iload_n hE dX0_load_4 2 rfl ?_
      refine g_aload_n hE dX0_load_5 0 rfl ?_
      refine g_get hE fl_X0_39 dX0_load_6 0 rfl rfl ?_
      refine g_icmp_ge hE 35 dX0_load_9 (by decide) (fun c1 => ?_) (fun c1 => ?_)
      · have kc1 := nat_le_t (show (m 9 0) = nI n from hn) (show (nI g) = nI g from rfl) (by omega) (by omega) c1
        refine g_iload_n hE dX0_load_35 1 rfl ?_
        exact g_iret hE hQ dX0_load_36 rfl z rfl rfl (by rw [hz, show n = g by omega])
      · have kc1 := nat_le_f (show (m 9 0) = nI n from hn) (show (nI g) = nI g from rfl) (by omega) (by omega) c1
        refine g_aload_n hE dX0_load_12 0 rfl ?_
        refine g_get hE fl_X0_15 dX0_load_13 0 rfl rfl ?_
        refine g_iload_n hE dX0_load_16 2 rfl ?_
        refine g_callSN hE (c_X4_at cI cS (a 2) 6 (m 1) (nI g) (by decide)) mk_X4_at st_X4_at nl_X0_49 dX0_load_17 (As := [.ref (a 2), .int (nI g)]) (rest := []) rfl rfl (by decide) (by decide) (Nat.le_of_ble_eq_true rfl) (by decide) (by decide) [2] rfl (by decide) (fun u => Nat.le_of_ble_eq_true rfl) (ws' := fun u => millW cI a m) (fun u => rfl) (fun u hu => ?_)
        obtain ⟨r_2, rfl⟩ : ∃ z, z = u := ⟨_, rfl⟩
        have h3 : r_2 = ((m 1) g) := hu.trans (by rw [show (nI g) = nI g from rfl]; exact atv_n (by omega) (by decide))
        subst h3
        show Go E Q 3 0 0 20 [(0, .ref (a 0)), (1, .int z), (2, .int (nI g))] [.int ((m 1) g)] (millW cI a m)
        refine g_if_le hE 29 dX0_load_20 (by decide) (fun c4 => ?_) (fun c4 => ?_)
        · refine g_iinc hE dX0_load_29 2 (nI (g + 1)) [(2, .int (nI (g + 1))), (0, .ref (a 0)), (1, .int z)] rfl (nI_1 _) (by decide) rfl ?_
          refine g_goto hE 4 dX0_load_32 (by decide) ?_
          refine g_locals [1, 2, 0] [(0, .ref (a 0)), (1, .int z), (2, .int (nI (g + 1)))] rfl ?_
          exact ih_4 (g + 1) z (by first | assumption | omega) (by first | exact ldS_y hz (by omega) (Int32.not_le.mp (by assumption)) | exact ldS_n hz (Int32.not_lt.mpr (by assumption))) (by omega)
        · refine g_iload_n hE dX0_load_23 1 rfl ?_
          refine g_iconst hE dX0_load_24 1 (by decide) ?_
          refine g_iload_n hE dX0_load_25 2 rfl ?_
          refine g_ishl hE dX0_load_26 ?_
          refine g_ior hE dX0_load_27 ?_
          refine g_istore_n hE dX0_load_28 [(1, .int (z ||| (1 <<< ((nI g) &&& 31)))), (0, .ref (a 0)), (2, .int (nI g))] rfl (by decide) rfl ?_
          refine g_iinc hE dX0_load_29 2 (nI (g + 1)) [(2, .int (nI (g + 1))), (1, .int (z ||| (1 <<< ((nI g) &&& 31)))), (0, .ref (a 0))] rfl (nI_1 _) (by decide) rfl ?_
          refine g_goto hE 4 dX0_load_32 (by decide) ?_
          refine g_locals [2, 1, 0] [(0, .ref (a 0)), (1, .int (z ||| (1 <<< ((nI g) &&& 31)))), (2, .int (nI (g + 1)))] rfl ?_
          exact ih_4 (g + 1) (z ||| (1 <<< ((nI g) &&& 31))) (by first | assumption | omega) (by first | exact ldS_y hz (by omega) (Int32.not_le.mp (by assumption)) | exact ldS_n hz (Int32.not_lt.mpr (by assumption))) (by omega)
  refine g_locals [2, 1, 0] [(0, .ref (a 0)), (1, .int 0), (2, .int 0)] rfl ?_
  exact L4 _ 0 0 (Nat.zero_le _) rfl (Nat.lt_succ_self _)
set_option maxHeartbeats 4000000 in
set_option maxRecDepth 100000 in
theorem c_X0_amountOf (cI cS : ClassId) (a : Nat → Nat) (m : Nat → Nat → Int32) {n sv pl : Nat} (hM : MW m n sv pl) (z : Int32) (s : Nat) (hz : z = nI s) (hs : s < 64) : CT cI cS yX0_amountOf cX0_amountOf 4 (some .int) 1 [.ref (a 0), .int z] (millW cI a m) 0 0 (fun u : Int32 => u = aS (m 1) s n) (fun u => some (.int u)) (fun u => (millW cI a m)) := by
  refine ct_intro (by decide) (Nat.le_of_ble_eq_true rfl) (fun E Q hE hQ hI => ?_)
  have hE : CxOk E cI cS RX0 cX0_amountOf 4 (some .int) 1 0 0 := hE
  show Go E Q 4 0 0 0 [(0, .ref (a 0)), (1, .int z)] [] (millW cI a m)
  have hn := hM.1
  have hn6 := hM.2.1
  have hsv := hM.2.2.1
  have hsv8 := hM.2.2.2.1
  have hpl := hM.2.2.2.2.1
  have hpl6 := hM.2.2.2.2.2
  refine g_iconst hE dX0_amountOf_0 0 (by decide) ?_
  refine g_istore_n hE dX0_amountOf_1 [(2, .int 0), (0, .ref (a 0)), (1, .int z)] rfl (by decide) rfl ?_
  refine g_iconst hE dX0_amountOf_2 0 (by decide) ?_
  refine g_istore_n hE dX0_amountOf_3 [(3, .int 0), (2, .int 0), (0, .ref (a 0)), (1, .int z)] rfl (by decide) rfl ?_
  have L4 : ∀ (n_4 : Nat) (g : Nat) (y : Int32), (g ≤ n) → (y = aS (m 1) s g) → (n - g < n_4) → Go E Q 4 0 0 4 [(0, .ref (a 0)), (1, .int z), (2, .int y), (3, .int (nI g))] [] (millW cI a m) := by
    intro n_4
    induction n_4 with
    | zero => intro g y hg hy hm_4; exact absurd hm_4 (Nat.not_lt_zero _)
    | succ n_4 ih_4 =>
      intro g y hg hy hm_4
      refine g_iload_n hE dX0_amountOf_4 3 rfl ?_
      refine g_aload_n hE dX0_amountOf_5 0 rfl ?_
      refine g_get hE fl_X0_39 dX0_amountOf_6 0 rfl rfl ?_
      refine g_icmp_ge hE 37 dX0_amountOf_9 (by decide) (fun c1 => ?_) (fun c1 => ?_)
      · have kc1 := nat_le_t (show (m 9 0) = nI n from hn) (show (nI g) = nI g from rfl) (by omega) (by omega) c1
        refine g_iload_n hE dX0_amountOf_37 2 rfl ?_
        exact g_iret hE hQ dX0_amountOf_38 rfl y rfl rfl (by rw [hy, show n = g by omega])
      · have kc1 := nat_le_f (show (m 9 0) = nI n from hn) (show (nI g) = nI g from rfl) (by omega) (by omega) c1
        refine g_iload_n hE dX0_amountOf_12 1 rfl ?_
        refine g_iload_n hE dX0_amountOf_13 3 rfl ?_
        refine g_ishr hE dX0_amountOf_14 ?_
        refine g_iconst hE dX0_amountOf_15 1 (by decide) ?_
        refine g_iand hE dX0_amountOf_16 ?_
        refine g_if_eq hE 31 dX0_amountOf_17 (by decide) (fun c2 => ?_) (fun c2 => ?_)
        · refine g_iinc hE dX0_amountOf_31 3 (nI (g + 1)) [(3, .int (nI (g + 1))), (0, .ref (a 0)), (1, .int z), (2, .int y)] rfl (nI_1 _) (by decide) rfl ?_
          refine g_goto hE 4 dX0_amountOf_34 (by decide) ?_
          refine g_locals [1, 2, 3, 0] [(0, .ref (a 0)), (1, .int z), (2, .int y), (3, .int (nI (g + 1)))] rfl ?_
          exact ih_4 (g + 1) y (by first | assumption | omega) (by first | exact aS_y hy (bit_t hz hs (by omega) (by assumption)) | exact aS_n hy (bit_f hz hs (by omega) (by assumption))) (by omega)
        · refine g_iload_n hE dX0_amountOf_20 2 rfl ?_
          refine g_aload_n hE dX0_amountOf_21 0 rfl ?_
          refine g_get hE fl_X0_15 dX0_amountOf_22 0 rfl rfl ?_
          refine g_iload_n hE dX0_amountOf_25 3 rfl ?_
          refine g_callSN hE (c_X4_at cI cS (a 2) 6 (m 1) (nI g) (by decide)) mk_X4_at st_X4_at nl_X0_49 dX0_amountOf_26 (As := [.ref (a 2), .int (nI g)]) (rest := [.int y]) rfl rfl (by decide) (by decide) (Nat.le_of_ble_eq_true rfl) (by decide) (by decide) [2] rfl (by decide) (fun u => Nat.le_of_ble_eq_true rfl) (ws' := fun u => millW cI a m) (fun u => rfl) (fun u hu => ?_)
          obtain ⟨r_3, rfl⟩ : ∃ z, z = u := ⟨_, rfl⟩
          have h4 : r_3 = ((m 1) g) := hu.trans (by rw [show (nI g) = nI g from rfl]; exact atv_n (by omega) (by decide))
          subst h4
          show Go E Q 4 0 0 29 [(0, .ref (a 0)), (1, .int z), (2, .int y), (3, .int (nI g))] [.int ((m 1) g), .int y] (millW cI a m)
          refine g_iadd hE dX0_amountOf_29 ?_
          refine g_istore_n hE dX0_amountOf_30 [(2, .int (y + ((m 1) g))), (0, .ref (a 0)), (1, .int z), (3, .int (nI g))] rfl (by decide) rfl ?_
          refine g_iinc hE dX0_amountOf_31 3 (nI (g + 1)) [(3, .int (nI (g + 1))), (2, .int (y + ((m 1) g))), (0, .ref (a 0)), (1, .int z)] rfl (nI_1 _) (by decide) rfl ?_
          refine g_goto hE 4 dX0_amountOf_34 (by decide) ?_
          refine g_locals [2, 3, 1, 0] [(0, .ref (a 0)), (1, .int z), (2, .int (y + ((m 1) g))), (3, .int (nI (g + 1)))] rfl ?_
          exact ih_4 (g + 1) (y + ((m 1) g)) (by first | assumption | omega) (by first | exact aS_y hy (bit_t hz hs (by omega) (by assumption)) | exact aS_n hy (bit_f hz hs (by omega) (by assumption))) (by omega)
  refine g_locals [2, 3, 1, 0] [(0, .ref (a 0)), (1, .int z), (2, .int 0), (3, .int 0)] rfl ?_
  exact L4 _ 0 0 (Nat.zero_le _) rfl (Nat.lt_succ_self _)
set_option maxHeartbeats 4000000 in
set_option maxRecDepth 100000 in
theorem c_X0_worth (cI cS : ClassId) (a : Nat → Nat) (m : Nat → Nat → Int32) {n sv pl : Nat} (hM : MW m n sv pl) (z : Int32) (s : Nat) (hz : z = nI s) (hs : s < 64) : CT cI cS yX0_worth cX0_worth 4 (some .int) 2 [.ref (a 0), .int z] (millW cI a m) 0 0 (fun u : Int32 => u = wS m n s) (fun u => some (.int u)) (fun u => (millW cI a m)) := by
  refine ct_intro (by decide) (Nat.le_of_ble_eq_true rfl) (fun E Q hE hQ hI => ?_)
  have hE : CxOk E cI cS RX0 cX0_worth 4 (some .int) 2 0 0 := hE
  show Go E Q 4 0 0 0 [(0, .ref (a 0)), (1, .int z)] [] (millW cI a m)
  have hn := hM.1
  have hn6 := hM.2.1
  have hsv := hM.2.2.1
  have hsv8 := hM.2.2.2.1
  have hpl := hM.2.2.2.2.1
  have hpl6 := hM.2.2.2.2.2
  refine g_bipush hE dX0_worth_0 99 (by decide) ?_
  refine g_istore_n hE dX0_worth_2 [(2, .int 99), (0, .ref (a 0)), (1, .int z)] rfl (by decide) rfl ?_
  refine g_iconst hE dX0_worth_3 0 (by decide) ?_
  refine g_istore_n hE dX0_worth_4 [(3, .int 0), (2, .int 99), (0, .ref (a 0)), (1, .int z)] rfl (by decide) rfl ?_
  have L5 : ∀ (n_5 : Nat) (g : Nat) (y : Int32), (g ≤ n) → (y = lS (m 2) s g) → (n - g < n_5) → Go E Q 4 0 0 5 [(0, .ref (a 0)), (1, .int z), (2, .int y), (3, .int (nI g))] [] (millW cI a m) := by
    intro n_5
    induction n_5 with
    | zero => intro g y hg hy hm_5; exact absurd hm_5 (Nat.not_lt_zero _)
    | succ n_5 ih_5 =>
      intro g y hg hy hm_5
      refine g_iload_n hE dX0_worth_5 3 rfl ?_
      refine g_aload_n hE dX0_worth_6 0 rfl ?_
      refine g_get hE fl_X0_39 dX0_worth_7 0 rfl rfl ?_
      refine g_icmp_ge hE 40 dX0_worth_10 (by decide) (fun c1 => ?_) (fun c1 => ?_)
      · have kc1 := nat_le_t (show (m 9 0) = nI n from hn) (show (nI g) = nI g from rfl) (by omega) (by omega) c1
        refine g_aload_n hE dX0_worth_40 0 rfl ?_
        refine g_iload_n hE dX0_worth_41 1 rfl ?_
        refine g_callV hE (c_X0_amountOf cI cS a m (by first | assumption | exact mw_of (by assumption)) z s (show z = nI s from hz) (by first | assumption | exact bs_lt64 _ (by assumption) | exact fallS_lt (by assumption) (by assumption) | exact nd_lt (by assumption) (by assumption) | exact nd_lt (by assumption) (fallS_lt (by assumption) (by assumption)) | exact nd_lt (by assumption) (bs_lt64 _ (by assumption)) | decide)) mk_X0_amountOf mv_X0_amountOf ml_X0_80 dX0_worth_42 (As := [.int z]) (rest := []) rfl rfl 0 rfl (show vwCl[0]? = some (RX0, TX0, 13) from rfl) (by decide) (by decide) (Nat.le_of_ble_eq_true rfl) (by decide) (by decide) [0, 1, 2, 3, 4, 5, 6, 7, 8, 9] rfl (by decide) (fun u => Nat.le_of_ble_eq_true rfl) (ws' := fun u => millW cI a m) (fun u => rfl) (fun u hu => ?_)
        obtain ⟨r_2, rfl⟩ : ∃ z, z = u := ⟨_, rfl⟩
        have h3 : r_2 = (aS (m 1) s n) := hu
        subst h3
        show Go E Q 4 0 0 45 [(0, .ref (a 0)), (1, .int z), (2, .int y), (3, .int (nI g))] [.int (aS (m 1) s n)] (millW cI a m)
        refine g_iload_n hE dX0_worth_45 2 rfl ?_
        refine g_imul hE dX0_worth_46 ?_
        exact g_iret hE hQ dX0_worth_47 rfl ((aS (m 1) s n) * y) rfl rfl (by rw [hy, show n = g by omega]; rfl)
      · have kc1 := nat_le_f (show (m 9 0) = nI n from hn) (show (nI g) = nI g from rfl) (by omega) (by omega) c1
        refine g_iload_n hE dX0_worth_13 1 rfl ?_
        refine g_iload_n hE dX0_worth_14 3 rfl ?_
        refine g_ishr hE dX0_worth_15 ?_
        refine g_iconst hE dX0_worth_16 1 (by decide) ?_
        refine g_iand hE dX0_worth_17 ?_
        refine g_if_eq hE 34 dX0_worth_18 (by decide) (fun c4 => ?_) (fun c4 => ?_)
        · refine g_iinc hE dX0_worth_34 3 (nI (g + 1)) [(3, .int (nI (g + 1))), (0, .ref (a 0)), (1, .int z), (2, .int y)] rfl (nI_1 _) (by decide) rfl ?_
          refine g_goto hE 5 dX0_worth_37 (by decide) ?_
          refine g_locals [1, 2, 3, 0] [(0, .ref (a 0)), (1, .int z), (2, .int y), (3, .int (nI (g + 1)))] rfl ?_
          exact ih_5 (g + 1) y (by first | assumption | omega) (by first | exact lS_y hy (bit_t hz hs (by omega) (by assumption)) | exact lS_n hy (bit_f hz hs (by omega) (by assumption))) (by omega)
        · refine g_iload_n hE dX0_worth_21 2 rfl ?_
          refine g_aload_n hE dX0_worth_22 0 rfl ?_
          refine g_get hE fl_X0_18 dX0_worth_23 0 rfl rfl ?_
          refine g_iload_n hE dX0_worth_26 3 rfl ?_
          refine g_callSN hE (c_X4_at cI cS (a 3) 6 (m 2) (nI g) (by decide)) mk_X4_at st_X4_at nl_X0_49 dX0_worth_27 (As := [.ref (a 3), .int (nI g)]) (rest := [.int y]) rfl rfl (by decide) (by decide) (Nat.le_of_ble_eq_true rfl) (by decide) (by decide) [3] rfl (by decide) (fun u => Nat.le_of_ble_eq_true rfl) (ws' := fun u => millW cI a m) (fun u => rfl) (fun u hu => ?_)
          obtain ⟨r_5, rfl⟩ : ∃ z, z = u := ⟨_, rfl⟩
          have h6 : r_5 = ((m 2) g) := hu.trans (by rw [show (nI g) = nI g from rfl]; exact atv_n (by omega) (by decide))
          subst h6
          show Go E Q 4 0 0 30 [(0, .ref (a 0)), (1, .int z), (2, .int y), (3, .int (nI g))] [.int ((m 2) g), .int y] (millW cI a m)
          refine g_min hE (by decide) (by decide) (by decide) ml_X0_74 mi_st mi_in mi_co dX0_worth_30 (Nat.le_of_ble_eq_true rfl) ?_
          refine g_istore_n hE dX0_worth_33 [(2, .int (if ((m 2) g) < y then ((m 2) g) else y)), (0, .ref (a 0)), (1, .int z), (3, .int (nI g))] rfl (by decide) rfl ?_
          refine g_iinc hE dX0_worth_34 3 (nI (g + 1)) [(3, .int (nI (g + 1))), (2, .int (if ((m 2) g) < y then ((m 2) g) else y)), (0, .ref (a 0)), (1, .int z)] rfl (nI_1 _) (by decide) rfl ?_
          refine g_goto hE 5 dX0_worth_37 (by decide) ?_
          refine g_locals [2, 3, 1, 0] [(0, .ref (a 0)), (1, .int z), (2, .int (if ((m 2) g) < y then ((m 2) g) else y)), (3, .int (nI (g + 1)))] rfl ?_
          exact ih_5 (g + 1) (if ((m 2) g) < y then ((m 2) g) else y) (by first | assumption | omega) (by first | exact lS_y hy (bit_t hz hs (by omega) (by assumption)) | exact lS_n hy (bit_f hz hs (by omega) (by assumption))) (by omega)
  refine g_locals [2, 3, 1, 0] [(0, .ref (a 0)), (1, .int z), (2, .int 99), (3, .int 0)] rfl ?_
  exact L5 _ 0 99 (Nat.zero_le _) rfl (Nat.lt_succ_self _)
set_option maxHeartbeats 4000000 in
set_option maxRecDepth 100000 in
theorem c_X0_letsFall (cI cS : ClassId) (a : Nat → Nat) (m : Nat → Nat → Int32) {n sv pl : Nat} (hM : MW m n sv pl) (v z : Int32) : CT cI cS yX0_letsFall cX0_letsFall 3 (some .boolean) 1 [.ref (a 0), .int v, .int z] (millW cI a m) 0 0 (fun u : Int32 => u = if atv (m 3) 8 v = 3 ∨ z ≤ atv (m 4) 8 v then 1 else 0) (fun u => some (.int u)) (fun u => (millW cI a m)) := by
  refine ct_intro (by decide) (Nat.le_of_ble_eq_true rfl) (fun E Q hE hQ hI => ?_)
  have hE : CxOk E cI cS RX0 cX0_letsFall 3 (some .boolean) 1 0 0 := hE
  show Go E Q 3 0 0 0 [(0, .ref (a 0)), (1, .int v), (2, .int z)] [] (millW cI a m)
  have hn := hM.1
  have hn6 := hM.2.1
  have hsv := hM.2.2.1
  have hsv8 := hM.2.2.2.1
  have hpl := hM.2.2.2.2.1
  have hpl6 := hM.2.2.2.2.2
  refine g_aload_n hE dX0_letsFall_0 0 rfl ?_
  refine g_get hE fl_X0_21 dX0_letsFall_1 0 rfl rfl ?_
  refine g_iload_n hE dX0_letsFall_4 1 rfl ?_
  refine g_callSN hE (c_X4_at cI cS (a 4) 8 (m 3) v (by decide)) mk_X4_at st_X4_at nl_X0_49 dX0_letsFall_5 (As := [.ref (a 4), .int v]) (rest := []) rfl rfl (by decide) (by decide) (Nat.le_of_ble_eq_true rfl) (by decide) (by decide) [4] rfl (by decide) (fun u => Nat.le_of_ble_eq_true rfl) (ws' := fun u => millW cI a m) (fun u => rfl) (fun u hu => ?_)
  obtain ⟨r_1, rfl⟩ : ∃ z, z = u := ⟨_, rfl⟩
  have h2 : r_1 = (atv (m 3) 8 v) := hu
  subst h2
  show Go E Q 3 0 0 8 [(0, .ref (a 0)), (1, .int v), (2, .int z)] [.int (atv (m 3) 8 v)] (millW cI a m)
  refine g_iconst hE dX0_letsFall_8 3 (by decide) ?_
  refine g_icmp_eq hE 24 dX0_letsFall_9 (by decide) (fun c3 => ?_) (fun c3 => ?_)
  · refine g_iconst hE dX0_letsFall_24 1 (by decide) ?_
    refine g_goto hE 29 dX0_letsFall_25 (by decide) ?_
    exact g_iret hE hQ dX0_letsFall_29 (by first | rfl | decide) 1 rfl rfl (by first | exact (if_pos (Or.inl (by assumption))).symm | exact (if_pos (Or.inr (by first | assumption | exact Int32.not_lt.mp (by assumption)))).symm | exact (if_neg (fun q => q.elim (by assumption) (fun q => absurd q (Int32.not_le.mpr (by first | assumption | exact Int32.not_le.mp (by assumption)))))).symm)
  · refine g_iload_n hE dX0_letsFall_12 2 rfl ?_
    refine g_aload_n hE dX0_letsFall_13 0 rfl ?_
    refine g_get hE fl_X0_24 dX0_letsFall_14 0 rfl rfl ?_
    refine g_iload_n hE dX0_letsFall_17 1 rfl ?_
    refine g_callSN hE (c_X4_at cI cS (a 5) 8 (m 4) v (by decide)) mk_X4_at st_X4_at nl_X0_49 dX0_letsFall_18 (As := [.ref (a 5), .int v]) (rest := [.int z]) rfl rfl (by decide) (by decide) (Nat.le_of_ble_eq_true rfl) (by decide) (by decide) [5] rfl (by decide) (fun u => Nat.le_of_ble_eq_true rfl) (ws' := fun u => millW cI a m) (fun u => rfl) (fun u hu => ?_)
    obtain ⟨r_4, rfl⟩ : ∃ z, z = u := ⟨_, rfl⟩
    have h5 : r_4 = (atv (m 4) 8 v) := hu
    subst h5
    show Go E Q 3 0 0 21 [(0, .ref (a 0)), (1, .int v), (2, .int z)] [.int (atv (m 4) 8 v), .int z] (millW cI a m)
    refine g_icmp_gt hE 28 dX0_letsFall_21 (by decide) (fun c6 => ?_) (fun c6 => ?_)
    · refine g_iconst hE dX0_letsFall_28 0 (by decide) ?_
      exact g_iret hE hQ dX0_letsFall_29 (by first | rfl | decide) 0 rfl rfl (by first | exact (if_pos (Or.inl (by assumption))).symm | exact (if_pos (Or.inr (by first | assumption | exact Int32.not_lt.mp (by assumption)))).symm | exact (if_neg (fun q => q.elim (by assumption) (fun q => absurd q (Int32.not_le.mpr (by first | assumption | exact Int32.not_le.mp (by assumption)))))).symm)
    · refine g_iconst hE dX0_letsFall_24 1 (by decide) ?_
      refine g_goto hE 29 dX0_letsFall_25 (by decide) ?_
      exact g_iret hE hQ dX0_letsFall_29 (by first | rfl | decide) 1 rfl rfl (by first | exact (if_pos (Or.inl (by assumption))).symm | exact (if_pos (Or.inr (by first | assumption | exact Int32.not_lt.mp (by assumption)))).symm | exact (if_neg (fun q => q.elim (by assumption) (fun q => absurd q (Int32.not_le.mpr (by first | assumption | exact Int32.not_le.mp (by assumption)))))).symm)
set_option maxHeartbeats 4000000 in
set_option maxRecDepth 100000 in
theorem c_X0_tooBig (cI cS : ClassId) (a : Nat → Nat) (m : Nat → Nat → Int32) {n sv pl : Nat} (hM : MW m n sv pl) (v z : Int32) (s : Nat) (hz : z = nI s) (hs : s < 64) : CT cI cS yX0_tooBig cX0_tooBig 5 (some .int) 2 [.ref (a 0), .int v, .int z] (millW cI a m) 0 0 (fun u : Int32 => u = nI (bigS m v s n)) (fun u => some (.int u)) (fun u => (millW cI a m)) := by
  refine ct_intro (by decide) (Nat.le_of_ble_eq_true rfl) (fun E Q hE hQ hI => ?_)
  have hE : CxOk E cI cS RX0 cX0_tooBig 5 (some .int) 2 0 0 := hE
  show Go E Q 5 0 0 0 [(0, .ref (a 0)), (1, .int v), (2, .int z)] [] (millW cI a m)
  have hn := hM.1
  have hn6 := hM.2.1
  have hsv := hM.2.2.1
  have hsv8 := hM.2.2.2.1
  have hpl := hM.2.2.2.2.1
  have hpl6 := hM.2.2.2.2.2
  refine g_iconst hE dX0_tooBig_0 0 (by decide) ?_
  refine g_istore_n hE dX0_tooBig_1 [(3, .int 0), (0, .ref (a 0)), (1, .int v), (2, .int z)] rfl (by decide) rfl ?_
  refine g_iconst hE dX0_tooBig_2 0 (by decide) ?_
  refine g_istore hE dX0_tooBig_3 [(4, .int 0), (3, .int 0), (0, .ref (a 0)), (1, .int v), (2, .int z)] (by decide) rfl ?_
  have L5 : ∀ (n_5 : Nat) (g : Nat) (y : Int32), (g ≤ n) → (y = nI (bigS m v s g)) → (n - g < n_5) → Go E Q 5 0 0 5 [(0, .ref (a 0)), (1, .int v), (2, .int z), (3, .int y), (4, .int (nI g))] [] (millW cI a m) := by
    intro n_5
    induction n_5 with
    | zero => intro g y hg hy hm_5; exact absurd hm_5 (Nat.not_lt_zero _)
    | succ n_5 ih_5 =>
      intro g y hg hy hm_5
      refine g_iload hE dX0_tooBig_5 4 rfl ?_
      refine g_aload_n hE dX0_tooBig_7 0 rfl ?_
      refine g_get hE fl_X0_39 dX0_tooBig_8 0 rfl rfl ?_
      refine g_icmp_ge hE 53 dX0_tooBig_11 (by decide) (fun c1 => ?_) (fun c1 => ?_)
      · have kc1 := nat_le_t (show (m 9 0) = nI n from hn) (show (nI g) = nI g from rfl) (by omega) (by omega) c1
        refine g_iload_n hE dX0_tooBig_53 3 rfl ?_
        exact g_iret hE hQ dX0_tooBig_54 rfl y rfl rfl (by rw [hy, show n = g by omega])
      · have kc1 := nat_le_f (show (m 9 0) = nI n from hn) (show (nI g) = nI g from rfl) (by omega) (by omega) c1
        refine g_iload_n hE dX0_tooBig_14 2 rfl ?_
        refine g_iload hE dX0_tooBig_15 4 rfl ?_
        refine g_ishr hE dX0_tooBig_17 ?_
        refine g_iconst hE dX0_tooBig_18 1 (by decide) ?_
        refine g_iand hE dX0_tooBig_19 ?_
        refine g_if_eq hE 47 dX0_tooBig_20 (by decide) (fun c2 => ?_) (fun c2 => ?_)
        · refine g_iinc hE dX0_tooBig_47 4 (nI (g + 1)) [(4, .int (nI (g + 1))), (0, .ref (a 0)), (1, .int v), (2, .int z), (3, .int y)] rfl (nI_1 _) (by decide) rfl ?_
          refine g_goto hE 5 dX0_tooBig_50 (by decide) ?_
          refine g_locals [1, 2, 3, 4, 0] [(0, .ref (a 0)), (1, .int v), (2, .int z), (3, .int y), (4, .int (nI (g + 1)))] rfl ?_
          exact ih_5 (g + 1) y (by first | assumption | omega) (by first | exact bigS_y hy (by omega) (bit_t hz hs (by omega) (by assumption)) (by assumption) | exact bigS_n2 hy (by assumption) | exact bigS_n1 hy (bit_f hz hs (by omega) (by assumption))) (by omega)
        · refine g_aload_n hE dX0_tooBig_23 0 rfl ?_
          refine g_iload_n hE dX0_tooBig_24 1 rfl ?_
          refine g_aload_n hE dX0_tooBig_25 0 rfl ?_
          refine g_get hE fl_X0_9 dX0_tooBig_26 0 rfl rfl ?_
          refine g_iload hE dX0_tooBig_29 4 rfl ?_
          refine g_callSN hE (c_X4_at cI cS (a 1) 6 (m 0) (nI g) (by decide)) mk_X4_at st_X4_at nl_X0_49 dX0_tooBig_31 (As := [.ref (a 1), .int (nI g)]) (rest := [.int v, .ref (a 0)]) rfl rfl (by decide) (by decide) (Nat.le_of_ble_eq_true rfl) (by decide) (by decide) [1] rfl (by decide) (fun u => Nat.le_of_ble_eq_true rfl) (ws' := fun u => millW cI a m) (fun u => rfl) (fun u hu => ?_)
          obtain ⟨r_3, rfl⟩ : ∃ z, z = u := ⟨_, rfl⟩
          have h4 : r_3 = ((m 0) g) := hu.trans (by rw [show (nI g) = nI g from rfl]; exact atv_n (by omega) (by decide))
          subst h4
          show Go E Q 5 0 0 34 [(0, .ref (a 0)), (1, .int v), (2, .int z), (3, .int y), (4, .int (nI g))] [.int ((m 0) g), .int v, .ref (a 0)] (millW cI a m)
          refine g_callV hE (c_X0_letsFall cI cS a m (by first | assumption | exact mw_of (by assumption)) v ((m 0) g)) mk_X0_letsFall mv_X0_letsFall ml_X0_84 dX0_tooBig_34 (As := [.int v, .int ((m 0) g)]) (rest := []) rfl rfl 0 rfl (show vwCl[0]? = some (RX0, TX0, 13) from rfl) (by decide) (by decide) (Nat.le_of_ble_eq_true rfl) (by decide) (by decide) [0, 1, 2, 3, 4, 5, 6, 7, 8, 9] rfl (by decide) (fun u => Nat.le_of_ble_eq_true rfl) (ws' := fun u => millW cI a m) (fun u => rfl) (fun u hu => ?_)
          obtain ⟨r_5, rfl⟩ : ∃ z, z = u := ⟨_, rfl⟩
          have h6 : r_5 = if atv (m 3) 8 v = 3 ∨ ((m 0) g) ≤ atv (m 4) 8 v then 1 else 0 := hu
          by_cases c7 : atv (m 3) 8 v = 3 ∨ ((m 0) g) ≤ atv (m 4) 8 v
          · rw [if_pos c7] at h6
            subst h6
            show Go E Q 5 0 0 37 [(0, .ref (a 0)), (1, .int v), (2, .int z), (3, .int y), (4, .int (nI g))] [.int 1] (millW cI a m)
            refine g_if_ne hE 47 dX0_tooBig_37 (by decide) (fun c8 => ?_) (fun c8 => absurd c8 (by decide))
            refine g_iinc hE dX0_tooBig_47 4 (nI (g + 1)) [(4, .int (nI (g + 1))), (0, .ref (a 0)), (1, .int v), (2, .int z), (3, .int y)] rfl (nI_1 _) (by decide) rfl ?_
            refine g_goto hE 5 dX0_tooBig_50 (by decide) ?_
            refine g_locals [1, 2, 3, 4, 0] [(0, .ref (a 0)), (1, .int v), (2, .int z), (3, .int y), (4, .int (nI (g + 1)))] rfl ?_
            exact ih_5 (g + 1) y (by first | assumption | omega) (by first | exact bigS_y hy (by omega) (bit_t hz hs (by omega) (by assumption)) (by assumption) | exact bigS_n2 hy (by assumption) | exact bigS_n1 hy (bit_f hz hs (by omega) (by assumption))) (by omega)
          · rw [if_neg c7] at h6
            subst h6
            show Go E Q 5 0 0 37 [(0, .ref (a 0)), (1, .int v), (2, .int z), (3, .int y), (4, .int (nI g))] [.int 0] (millW cI a m)
            refine g_if_ne hE 47 dX0_tooBig_37 (by decide) (fun c9 => absurd (by decide) c9) (fun c9 => ?_)
            refine g_iload_n hE dX0_tooBig_40 3 rfl ?_
            refine g_iconst hE dX0_tooBig_41 1 (by decide) ?_
            refine g_iload hE dX0_tooBig_42 4 rfl ?_
            refine g_ishl hE dX0_tooBig_44 ?_
            refine g_ior hE dX0_tooBig_45 ?_
            refine g_istore_n hE dX0_tooBig_46 [(3, .int (y ||| (1 <<< ((nI g) &&& 31)))), (0, .ref (a 0)), (1, .int v), (2, .int z), (4, .int (nI g))] rfl (by decide) rfl ?_
            refine g_iinc hE dX0_tooBig_47 4 (nI (g + 1)) [(4, .int (nI (g + 1))), (3, .int (y ||| (1 <<< ((nI g) &&& 31)))), (0, .ref (a 0)), (1, .int v), (2, .int z)] rfl (nI_1 _) (by decide) rfl ?_
            refine g_goto hE 5 dX0_tooBig_50 (by decide) ?_
            refine g_locals [2, 3, 4, 1, 0] [(0, .ref (a 0)), (1, .int v), (2, .int z), (3, .int (y ||| (1 <<< ((nI g) &&& 31)))), (4, .int (nI (g + 1)))] rfl ?_
            exact ih_5 (g + 1) (y ||| (1 <<< ((nI g) &&& 31))) (by first | assumption | omega) (by first | exact bigS_y hy (by omega) (bit_t hz hs (by omega) (by assumption)) (by assumption) | exact bigS_n2 hy (by assumption) | exact bigS_n1 hy (bit_f hz hs (by omega) (by assumption))) (by omega)
  refine g_locals [2, 3, 4, 1, 0] [(0, .ref (a 0)), (1, .int v), (2, .int z), (3, .int 0), (4, .int 0)] rfl ?_
  exact L5 _ 0 0 (Nat.zero_le _) rfl (Nat.lt_succ_self _)
set_option maxHeartbeats 4000000 in
set_option maxRecDepth 100000 in
theorem c_X0_isTooMuch (cI cS : ClassId) (a : Nat → Nat) (m : Nat → Nat → Int32) {n sv pl : Nat} (hM : MW m n sv pl) (v z : Int32) (s : Nat) (hz : z = nI s) (hs : s < 64) : CT cI cS yX0_isTooMuch cX0_isTooMuch 3 (some .boolean) 2 [.ref (a 0), .int v, .int z] (millW cI a m) 0 0 (fun u : Int32 => u = if atv (m 5) 8 v < aS (m 1) s n then 1 else 0) (fun u => some (.int u)) (fun u => (millW cI a m)) := by
  refine ct_intro (by decide) (Nat.le_of_ble_eq_true rfl) (fun E Q hE hQ hI => ?_)
  have hE : CxOk E cI cS RX0 cX0_isTooMuch 3 (some .boolean) 2 0 0 := hE
  show Go E Q 3 0 0 0 [(0, .ref (a 0)), (1, .int v), (2, .int z)] [] (millW cI a m)
  have hn := hM.1
  have hn6 := hM.2.1
  have hsv := hM.2.2.1
  have hsv8 := hM.2.2.2.1
  have hpl := hM.2.2.2.2.1
  have hpl6 := hM.2.2.2.2.2
  refine g_aload_n hE dX0_isTooMuch_0 0 rfl ?_
  refine g_iload_n hE dX0_isTooMuch_1 2 rfl ?_
  refine g_callV hE (c_X0_amountOf cI cS a m (by first | assumption | exact mw_of (by assumption)) z s (show z = nI s from hz) (by first | assumption | exact bs_lt64 _ (by assumption) | exact fallS_lt (by assumption) (by assumption) | exact nd_lt (by assumption) (by assumption) | exact nd_lt (by assumption) (fallS_lt (by assumption) (by assumption)) | exact nd_lt (by assumption) (bs_lt64 _ (by assumption)) | decide)) mk_X0_amountOf mv_X0_amountOf ml_X0_80 dX0_isTooMuch_2 (As := [.int z]) (rest := []) rfl rfl 0 rfl (show vwCl[0]? = some (RX0, TX0, 13) from rfl) (by decide) (by decide) (Nat.le_of_ble_eq_true rfl) (by decide) (by decide) [0, 1, 2, 3, 4, 5, 6, 7, 8, 9] rfl (by decide) (fun u => Nat.le_of_ble_eq_true rfl) (ws' := fun u => millW cI a m) (fun u => rfl) (fun u hu => ?_)
  obtain ⟨r_1, rfl⟩ : ∃ z, z = u := ⟨_, rfl⟩
  have h2 : r_1 = (aS (m 1) s n) := hu
  subst h2
  show Go E Q 3 0 0 5 [(0, .ref (a 0)), (1, .int v), (2, .int z)] [.int (aS (m 1) s n)] (millW cI a m)
  refine g_aload_n hE dX0_isTooMuch_5 0 rfl ?_
  refine g_get hE fl_X0_27 dX0_isTooMuch_6 0 rfl rfl ?_
  refine g_iload_n hE dX0_isTooMuch_9 1 rfl ?_
  refine g_callSN hE (c_X4_at cI cS (a 6) 8 (m 5) v (by decide)) mk_X4_at st_X4_at nl_X0_49 dX0_isTooMuch_10 (As := [.ref (a 6), .int v]) (rest := [.int (aS (m 1) s n)]) rfl rfl (by decide) (by decide) (Nat.le_of_ble_eq_true rfl) (by decide) (by decide) [6] rfl (by decide) (fun u => Nat.le_of_ble_eq_true rfl) (ws' := fun u => millW cI a m) (fun u => rfl) (fun u hu => ?_)
  obtain ⟨r_3, rfl⟩ : ∃ z, z = u := ⟨_, rfl⟩
  have h4 : r_3 = (atv (m 5) 8 v) := hu
  subst h4
  show Go E Q 3 0 0 13 [(0, .ref (a 0)), (1, .int v), (2, .int z)] [.int (atv (m 5) 8 v), .int (aS (m 1) s n)] (millW cI a m)
  refine g_icmp_le hE 20 dX0_isTooMuch_13 (by decide) (fun c5 => ?_) (fun c5 => ?_)
  · refine g_iconst hE dX0_isTooMuch_20 0 (by decide) ?_
    exact g_iret hE hQ dX0_isTooMuch_21 (by first | rfl | decide) 0 rfl rfl (by first | exact (if_pos (by first | assumption | exact Int32.not_le.mp (by assumption))).symm | exact (if_neg (by first | assumption | exact Int32.not_lt.mpr (by assumption))).symm)
  · refine g_iconst hE dX0_isTooMuch_16 1 (by decide) ?_
    refine g_goto hE 21 dX0_isTooMuch_17 (by decide) ?_
    exact g_iret hE hQ dX0_isTooMuch_21 (by first | rfl | decide) 1 rfl rfl (by first | exact (if_pos (by first | assumption | exact Int32.not_le.mp (by assumption))).symm | exact (if_neg (by first | assumption | exact Int32.not_lt.mpr (by assumption))).symm)
set_option maxHeartbeats 4000000 in
set_option maxRecDepth 100000 in
theorem c_X0_falling (cI cS : ClassId) (a : Nat → Nat) (m : Nat → Nat → Int32) {n sv pl : Nat} (hM : MW m n sv pl) (v z : Int32) (s : Nat) (hz : z = nI s) (hs : s < 64) : CT cI cS yX0_falling cX0_falling 4 (some .int) 3 [.ref (a 0), .int v, .int z] (millW cI a m) 0 0 (fun u : Int32 => u = nI (fallS m n v s)) (fun u => some (.int u)) (fun u => (millW cI a m)) := by
  refine ct_intro (by decide) (Nat.le_of_ble_eq_true rfl) (fun E Q hE hQ hI => ?_)
  have hE : CxOk E cI cS RX0 cX0_falling 4 (some .int) 3 0 0 := hE
  show Go E Q 4 0 0 0 [(0, .ref (a 0)), (1, .int v), (2, .int z)] [] (millW cI a m)
  have hn := hM.1
  have hn6 := hM.2.1
  have hsv := hM.2.2.1
  have hsv8 := hM.2.2.2.1
  have hpl := hM.2.2.2.2.1
  have hpl6 := hM.2.2.2.2.2
  refine g_aload_n hE dX0_falling_0 0 rfl ?_
  refine g_iload_n hE dX0_falling_1 1 rfl ?_
  refine g_iload_n hE dX0_falling_2 2 rfl ?_
  refine g_callV hE (c_X0_tooBig cI cS a m (by first | assumption | exact mw_of (by assumption)) v z s (show z = nI s from hz) (by first | assumption | exact bs_lt64 _ (by assumption) | exact fallS_lt (by assumption) (by assumption) | exact nd_lt (by assumption) (by assumption) | exact nd_lt (by assumption) (fallS_lt (by assumption) (by assumption)) | exact nd_lt (by assumption) (bs_lt64 _ (by assumption)) | decide)) mk_X0_tooBig mv_X0_tooBig ml_X0_88 dX0_falling_3 (As := [.int v, .int z]) (rest := []) rfl rfl 0 rfl (show vwCl[0]? = some (RX0, TX0, 13) from rfl) (by decide) (by decide) (Nat.le_of_ble_eq_true rfl) (by decide) (by decide) [0, 1, 2, 3, 4, 5, 6, 7, 8, 9] rfl (by decide) (fun u => Nat.le_of_ble_eq_true rfl) (ws' := fun u => millW cI a m) (fun u => rfl) (fun u hu => ?_)
  obtain ⟨r_1, rfl⟩ : ∃ z, z = u := ⟨_, rfl⟩
  have h2 : r_1 = (nI (bigS m v s n)) := hu
  subst h2
  show Go E Q 4 0 0 6 [(0, .ref (a 0)), (1, .int v), (2, .int z)] [.int (nI (bigS m v s n))] (millW cI a m)
  refine g_istore_n hE dX0_falling_6 [(3, .int (nI (bigS m v s n))), (0, .ref (a 0)), (1, .int v), (2, .int z)] rfl (by decide) rfl ?_
  refine g_aload_n hE dX0_falling_7 1 rfl ?_
  refine g_iload_n hE dX0_falling_8 2 rfl ?_
  refine g_iload_n hE dX0_falling_9 0 rfl ?_
  refine g_callV hE (c_X0_isTooMuch cI cS a m (by first | assumption | exact mw_of (by assumption)) v (nI (bigS m v s n)) (bigS m v s n) (show (nI (bigS m v s n)) = nI (bigS m v s n) from rfl) (by first | assumption | exact bs_lt64 _ (by assumption) | exact fallS_lt (by assumption) (by assumption) | exact nd_lt (by assumption) (by assumption) | exact nd_lt (by assumption) (fallS_lt (by assumption) (by assumption)) | exact nd_lt (by assumption) (bs_lt64 _ (by assumption)) | decide)) mk_X0_isTooMuch mv_X0_isTooMuch ml_X0_91 dX0_falling_10 (As := [.int v, .int (nI (bigS m v s n))]) (rest := []) rfl rfl 0 rfl (show vwCl[0]? = some (RX0, TX0, 13) from rfl) (by decide) (by decide) (Nat.le_of_ble_eq_true rfl) (by decide) (by decide) [0, 1, 2, 3, 4, 5, 6, 7, 8, 9] rfl (by decide) (fun u => Nat.le_of_ble_eq_true rfl) (ws' := fun u => millW cI a m) (fun u => rfl) (fun u hu => ?_)
  obtain ⟨r_3, rfl⟩ : ∃ z, z = u := ⟨_, rfl⟩
  have h4 : r_3 = if atv (m 5) 8 v < aS (m 1) (bigS m v s n) n then 1 else 0 := hu
  by_cases c5 : atv (m 5) 8 v < aS (m 1) (bigS m v s n) n
  · rw [if_pos c5] at h4
    subst h4
    show Go E Q 4 0 0 13 [(3, .int (nI (bigS m v s n))), (0, .ref (a 0)), (1, .int v), (2, .int z)] [.int 1] (millW cI a m)
    refine g_if_eq hE 20 dX0_falling_13 (by decide) (fun c6 => absurd c6 (by decide)) (fun c6 => ?_)
    refine g_iconst hE dX0_falling_16 0 (by decide) ?_
    refine g_goto hE 25 dX0_falling_17 (by decide) ?_
    exact g_iret hE hQ dX0_falling_25 rfl 0 rfl rfl (by unfold fallS; first | rw [if_pos (by assumption)]; rfl | (rw [if_neg (by assumption)]; exact nd_i hz rfl hs (bs_lt64 _ hn6)))
  · rw [if_neg c5] at h4
    subst h4
    show Go E Q 4 0 0 13 [(3, .int (nI (bigS m v s n))), (0, .ref (a 0)), (1, .int v), (2, .int z)] [.int 0] (millW cI a m)
    refine g_if_eq hE 20 dX0_falling_13 (by decide) (fun c7 => ?_) (fun c7 => absurd (by decide) c7)
    refine g_iload_n hE dX0_falling_20 3 rfl ?_
    refine g_iload_n hE dX0_falling_21 0 rfl ?_
    refine g_iconst hE dX0_falling_22 (-1) (by decide) ?_
    refine g_ixor hE dX0_falling_23 ?_
    refine g_iand hE dX0_falling_24 ?_
    exact g_iret hE hQ dX0_falling_25 rfl (z &&& ((nI (bigS m v s n)) ^^^ (-1))) rfl rfl (by unfold fallS; first | rw [if_pos (by assumption)]; rfl | (rw [if_neg (by assumption)]; exact nd_i hz rfl hs (bs_lt64 _ hn6)))
end
section
/-! static helpers, more; the mill: writes -/
theorem arrV_cong (cI : ClassId) {N : Nat} {f g : Nat → Value} (h : ∀ j, j < N → f j = g j) : arrV cI N f = arrV cI N g := by
  unfold arrV
  congr 1
  apply Array.ext
  · simp
  · intro i h1 h2
    simp only [Array.getElem_ofFn]
    exact h i (by simpa using h1)
theorem g_arr_eq {E : CX} {Q : State → Prop} {cA : ClassId} {nL cells slots pc : Nat} {lv : List (Nat × Value)} {st : List Value} {ws : va_W} {a n : Nat} {f g : Nat → Int32} (q0 : Nat) (ha : ws[q0]? = some (a, .inl (cA, n, .inl f))) (h : ∀ j, j < n → f j = g j) (ws' : va_W) (hw : ws.set q0 (a, .inl (cA, n, .inl g)) = ws') (kk : Go E Q nL cells slots pc lv st ws') : Go E Q nL cells slots pc lv st ws := by
  obtain ⟨p, l, e, R, s, m, args, below, meth, c, D, A⟩ := E
  subst hw
  intro H locs ls hP hD hS hl
  refine kk H locs ls (hP.set hD ha ?_ (fun _ _ => rfl)) (hD.set ha) hS hl
  have h1 : H[a]? = some (vp_cell cA (n, .inl f)) := hP q0 _ ha
  show H[a]? = some (vp_cell cA (n, .inl g))
  rw [h1, vp_cell_i, vp_cell_i, arrV_cong cA (fun j hj => by rw [h j hj])]
theorem upd_pre {f h : Nat → Int32} {i : Nat} {x : Int32} (hh : ∀ j, j < i → h j = f j) (hx : x = f i) : ∀ j, j < i + 1 → upd h i x j = f j := by
  intro j hj
  unfold upd
  by_cases e : j = i
  · rw [if_pos e, e, hx]
  · rw [if_neg e, hh j (by omega)]
def addG (m : Nat → Nat → Int32) (n : Nat) (x y z : Int32) : Nat → Nat → Int32 := pA (pA (pA (pA m 0 (upd (m 0) n x)) 1 (upd (m 1) n y)) 2 (upd (m 2) n z)) 9 (upd (m 9) 0 (nI (n + 1)))
def addV (m : Nat → Nat → Int32) (n : Nat) (x y z w : Int32) : Nat → Nat → Int32 := pA (pA (pA (pA (pA m 3 (upd (m 3) n x)) 4 (upd (m 4) n y)) 5 (upd (m 5) n z)) 6 (upd (m 6) n w)) 9 (upd (m 9) 1 (nI (n + 1)))
def addP (m : Nat → Nat → Int32) (n : Nat) (x : Int32) : Nat → Nat → Int32 := pA (pA m 7 (upd (m 7) n x)) 9 (upd (m 9) 2 (nI (n + 1)))
def tkG (m v : Nat → Nat → Int32) : Nat → Nat → Int32 := pA (pA (pA (pA m 9 (upd (m 9) 0 (v 9 0))) 0 (v 0)) 1 (v 1)) 2 (v 2)
def tkV (m v : Nat → Nat → Int32) : Nat → Nat → Int32 := pA (pA (pA (pA (pA m 9 (upd (m 9) 1 (v 9 1))) 3 (v 3)) 4 (v 4)) 5 (v 5)) 6 (v 6)
def tkR (m v : Nat → Nat → Int32) : Nat → Nat → Int32 := pA (pA m 9 (upd (m 9) 2 (v 9 2))) 7 (v 7)
def tkA (m v : Nat → Nat → Int32) : Nat → Nat → Int32 := pA (tkR (tkV (tkG m v) v) v) 9 (upd (tkR (tkV (tkG m v) v) v 9) 3 (v 9 3))
set_option maxHeartbeats 4000000 in
set_option maxRecDepth 100000 in
theorem c_X4_exchange (cI cS : ClassId) (q n : Nat) (f : Nat → Int32) (i v : Int32) (hn : n < 2 ^ 31) : CT cI cS yX4_exchange cX4_exchange 4 (some .int) 1 [.ref q, .int i, .int v] ([(q, .inl (cI, n, .inl f))]) 0 0 (fun u : Int32 × (Nat → Int32) => u.1 = atv f n i ∧ u.2 = putv f n i v) (fun u => some (.int u.1)) (fun u => ([(q, .inl (cI, n, .inl u.2))])) := by
  refine ct_intro (by decide) (Nat.le_of_ble_eq_true rfl) (fun E Q hE hQ hI => ?_)
  have hE : CxOk E cI cS RX4 cX4_exchange 4 (some .int) 1 0 0 := hE
  show Go E Q 4 0 0 0 [(0, .ref q), (1, .int i), (2, .int v)] [] ([(q, .inl (cI, n, .inl f))])
  refine g_aload_n hE dX4_exchange_0 0 rfl ?_
  refine g_iload_n hE dX4_exchange_1 1 rfl ?_
  refine g_callS hE (c_X4_at cI cS q n f i (by omega)) mk_X4_at st_X4_at ml_X4_91 dX4_exchange_2 (As := [.ref q, .int i]) (rest := []) rfl rfl (by decide) (by decide) (Nat.le_of_ble_eq_true rfl) (by decide) (by decide) [0] rfl (by decide) (fun u => Nat.le_of_ble_eq_true rfl) (ws' := fun u => [(q, .inl (cI, n, .inl f))]) (fun u => rfl) (fun u hu => ?_)
  obtain ⟨r_1, rfl⟩ : ∃ z, z = u := ⟨_, rfl⟩
  have h2 : r_1 = (atv f n i) := hu
  subst h2
  show Go E Q 4 0 0 5 [(0, .ref q), (1, .int i), (2, .int v)] [.int (atv f n i)] ([(q, .inl (cI, n, .inl f))])
  refine g_istore_n hE dX4_exchange_5 [(3, .int (atv f n i)), (0, .ref q), (1, .int i), (2, .int v)] rfl (by decide) rfl ?_
  refine g_aload_n hE dX4_exchange_6 1 rfl ?_
  refine g_iload_n hE dX4_exchange_7 2 rfl ?_
  refine g_iload_n hE dX4_exchange_8 3 rfl ?_
  refine g_callS hE (c_X4_put cI cS q n f i v (by omega)) mk_X4_put st_X4_put ml_X4_236 dX4_exchange_9 (As := [.ref q, .int i, .int v]) (rest := []) rfl rfl (by decide) (by decide) (Nat.le_of_ble_eq_true rfl) (by decide) (by decide) [0] rfl (by decide) (fun u => Nat.le_of_ble_eq_true rfl) (ws' := fun u => [(q, .inl (cI, n, .inl u))]) (fun u => rfl) (fun u hu => ?_)
  obtain ⟨f_3, rfl⟩ : ∃ z, z = u := ⟨_, rfl⟩
  have h4 : f_3 = putv f n i v := hu
  have h5 : f_3 = (putv f n i v) := h4
  subst h5
  show Go E Q 4 0 0 12 [(3, .int (atv f n i)), (0, .ref q), (1, .int i), (2, .int v)] [] ([(q, .inl (cI, n, .inl (putv f n i v)))])
  refine g_iload_n hE dX4_exchange_12 0 rfl ?_
  exact g_iret hE hQ dX4_exchange_13 rfl ((atv f n i), (putv f n i v)) rfl rfl ⟨rfl, rfl⟩
set_option maxHeartbeats 4000000 in
set_option maxRecDepth 100000 in
theorem c_X4_byteOf (cI cS : ClassId) (w : Int64) (i : Int32) : CT cI cS yX4_byteOf cX4_byteOf 3 (some .int) 0 [.long w, .int i] (([] : va_W)) 0 0 (fun u : Int32 => u = (w >>> ((8 * i : Int32).toInt64 &&& 63)).toInt32 &&& 255) (fun u => some (.int u)) (fun u => (([] : va_W))) := by
  refine ct_intro (by decide) (Nat.le_of_ble_eq_true rfl) (fun E Q hE hQ hI => ?_)
  have hE : CxOk E cI cS RX4 cX4_byteOf 3 (some .int) 0 0 0 := hE
  show Go E Q 3 0 0 0 [(0, .long w), (2, .int i)] [] (([] : va_W))
  refine g_lload_n hE dX4_byteOf_0 0 rfl ?_
  refine g_bipush hE dX4_byteOf_1 8 (by decide) ?_
  refine g_iload_n hE dX4_byteOf_3 1 rfl ?_
  refine g_imul hE dX4_byteOf_4 ?_
  refine g_lshr hE dX4_byteOf_5 ?_
  refine g_l2i hE dX4_byteOf_6 ?_
  refine g_sipush hE dX4_byteOf_7 255 (by decide) ?_
  refine g_iand hE dX4_byteOf_10 ?_
  exact g_iret hE hQ dX4_byteOf_11 rfl ((Int64.toInt32 (w >>> (Int32.toInt64 (8 * i) &&& 63))) &&& 255) rfl rfl rfl
set_option maxHeartbeats 4000000 in
set_option maxRecDepth 100000 in
theorem c_X4_isLane (cI cS : ClassId) (v : Int32) : CT cI cS yX4_isLane cX4_isLane 1 (some .boolean) 1 [.int v] (([] : va_W)) 0 0 (fun u : Int32 => u = if 0 ≤ v ∧ v ≤ 2 then 1 else 0) (fun u => some (.int u)) (fun u => (([] : va_W))) := by
  refine ct_intro (by decide) (Nat.le_of_ble_eq_true rfl) (fun E Q hE hQ hI => ?_)
  have hE : CxOk E cI cS RX4 cX4_isLane 1 (some .boolean) 1 0 0 := hE
  show Go E Q 1 0 0 0 [(0, .int v)] [] (([] : va_W))
  refine g_iload_n hE dX4_isLane_0 0 rfl ?_
  refine g_iconst hE dX4_isLane_1 0 (by decide) ?_
  refine g_iconst hE dX4_isLane_2 2 (by decide) ?_
  refine g_callS hE (c_X4_within cI cS v 0 2) mk_X4_within st_X4_within ml_X4_47 dX4_isLane_3 (As := [.int v, .int 0, .int 2]) (rest := []) rfl rfl (by decide) (by decide) (Nat.le_of_ble_eq_true rfl) (by decide) (by decide) [] rfl (by decide) (fun u => Nat.le_of_ble_eq_true rfl) (ws' := fun u => ([] : va_W)) (fun u => rfl) (fun u hu => ?_)
  obtain ⟨r_1, rfl⟩ : ∃ z, z = u := ⟨_, rfl⟩
  have h2 : r_1 = if 0 ≤ v ∧ v ≤ 2 then 1 else 0 := hu
  by_cases c3 : 0 ≤ v ∧ v ≤ 2
  · rw [if_pos c3] at h2
    subst h2
    show Go E Q 1 0 0 6 [(0, .int v)] [.int 1] (([] : va_W))
    exact g_iret hE hQ dX4_isLane_6 (by first | rfl | decide) 1 rfl rfl (by first | exact (if_pos (by assumption)).symm | exact (if_neg (by assumption)).symm)
  · rw [if_neg c3] at h2
    subst h2
    show Go E Q 1 0 0 6 [(0, .int v)] [.int 0] (([] : va_W))
    exact g_iret hE hQ dX4_isLane_6 (by first | rfl | decide) 0 rfl rfl (by first | exact (if_pos (by assumption)).symm | exact (if_neg (by assumption)).symm)
set_option maxHeartbeats 4000000 in
set_option maxRecDepth 100000 in
theorem c_X4_copyAll (cI cS : ClassId) (q1 q2 n : Nat) (f g : Nat → Int32) (hn : n < 2 ^ 31) : CT cI cS yX4_copyAll cX4_copyAll 3 none 0 [.ref q1, .ref q2] ([(q1, .inl (cI, n, .inl f))] ++ ([(q2, .inl (cI, n, .inl g))])) 0 0 (fun u : Unit => True) (fun u => none) (fun u => ([(q1, .inl (cI, n, .inl f))] ++ ([(q2, .inl (cI, n, .inl f))]))) := by
  refine ct_intro (by decide) (Nat.le_of_ble_eq_true rfl) (fun E Q hE hQ hI => ?_)
  have hE : CxOk E cI cS RX4 cX4_copyAll 3 none 0 0 0 := hE
  show Go E Q 3 0 0 0 [(0, .ref q1), (1, .ref q2)] [] ([(q1, .inl (cI, n, .inl f))] ++ ([(q2, .inl (cI, n, .inl g))]))
  refine g_iconst hE dX4_copyAll_0 0 (by decide) ?_
  refine g_istore_n hE dX4_copyAll_1 [(2, .int 0), (0, .ref q1), (1, .ref q2)] rfl (by decide) rfl ?_
  have L2 : ∀ (n_2 : Nat) (i : Nat) (h : Nat → Int32), (i ≤ n) → (∀ j, j < i → h j = f j) → (n - i < n_2) → Go E Q 3 0 0 2 [(0, .ref q1), (1, .ref q2), (2, .int (nI i))] [] ([(q1, .inl (cI, n, .inl f))] ++ ([(q2, .inl (cI, n, .inl h))])) := by
    intro n_2
    induction n_2 with
    | zero => intro i h hi hh hm_2; exact absurd hm_2 (Nat.not_lt_zero _)
    | succ n_2 ih_2 =>
      intro i h hi hh hm_2
      refine g_iload_n hE dX4_copyAll_2 2 rfl ?_
      refine g_aload_n hE dX4_copyAll_3 0 rfl ?_
      refine g_alen hE dX4_copyAll_4 0 (nI n) rfl rfl ?_
      refine g_icmp_ge hE 26 dX4_copyAll_5 (by decide) (fun c1 => ?_) (fun c1 => ?_)
      · have kc1 := nat_le_t (show (nI n) = nI n from rfl) (show (nI i) = nI i from rfl) (by omega) (by omega) c1
        refine g_arr_eq 1 (f := h) (g := f) rfl (fun j hj => hh j (by omega)) _ rfl ?_
        exact g_vret hE hQ dX4_copyAll_26 () rfl rfl trivial
      · have kc1 := nat_le_f (show (nI n) = nI n from rfl) (show (nI i) = nI i from rfl) (by omega) (by omega) c1
        refine g_iload_n hE dX4_copyAll_8 2 rfl ?_
        refine g_aload_n hE dX4_copyAll_9 1 rfl ?_
        refine g_alen hE dX4_copyAll_10 1 (nI n) rfl rfl ?_
        refine g_icmp_ge hE 26 dX4_copyAll_11 (by decide) (fun c2 => absurd (Int32.not_le.mp c1) (Int32.not_lt.mpr c2)) (fun c2 => ?_)
        refine g_aload_n hE dX4_copyAll_14 1 rfl ?_
        refine g_iload_n hE dX4_copyAll_15 2 rfl ?_
        refine g_aload_n hE dX4_copyAll_16 0 rfl ?_
        refine g_iload_n hE dX4_copyAll_17 2 rfl ?_
        refine g_iald_n hE dX4_copyAll_18 0 rfl (show (nI i) = nI i from rfl) (by omega) ?_ (hn := (by omega))
        refine g_iast_n hE dX4_copyAll_19 1 rfl (show (nI i) = nI i from rfl) (by omega) ([(q1, .inl (cI, n, .inl f))] ++ ([(q2, .inl (cI, n, .inl (upd h i (f i))))])) rfl ?_ (hn := (by omega))
        refine g_iinc hE dX4_copyAll_20 2 (nI (i + 1)) [(2, .int (nI (i + 1))), (0, .ref q1), (1, .ref q2)] rfl (nI_1 _) (by decide) rfl ?_
        refine g_goto hE 2 dX4_copyAll_23 (by decide) ?_
        refine g_locals [1, 2, 0] [(0, .ref q1), (1, .ref q2), (2, .int (nI (i + 1)))] rfl ?_
        exact ih_2 (i + 1) (upd h i (f i)) (by first | assumption | omega) (upd_pre hh rfl) (by omega)
  refine g_locals [1, 2, 0] [(0, .ref q1), (1, .ref q2), (2, .int 0)] rfl ?_
  exact L2 _ 0 g (Nat.zero_le _) (fun j hj => absurd hj (Nat.not_lt_zero _)) (Nat.lt_succ_self _)
set_option maxHeartbeats 4000000 in
set_option maxRecDepth 100000 in
theorem c_X4_copyAll_s (cI cS : ClassId) (q1 q2 n : Nat) (f g : Nat → Int32) (hn : n < 2 ^ 31) : CT cI cS yX4_copyAll cX4_copyAll 3 none 0 [.ref q1, .ref q2] ([(q2, .inl (cI, n, .inl g))] ++ ([(q1, .inl (cI, n, .inl f))])) 0 0 (fun u : Unit => True) (fun u => none) (fun u => ([(q2, .inl (cI, n, .inl f))] ++ ([(q1, .inl (cI, n, .inl f))]))) := by
  refine ct_intro (by decide) (Nat.le_of_ble_eq_true rfl) (fun E Q hE hQ hI => ?_)
  have hE : CxOk E cI cS RX4 cX4_copyAll 3 none 0 0 0 := hE
  show Go E Q 3 0 0 0 [(0, .ref q1), (1, .ref q2)] [] ([(q2, .inl (cI, n, .inl g))] ++ ([(q1, .inl (cI, n, .inl f))]))
  refine g_iconst hE dX4_copyAll_0 0 (by decide) ?_
  refine g_istore_n hE dX4_copyAll_1 [(2, .int 0), (0, .ref q1), (1, .ref q2)] rfl (by decide) rfl ?_
  have L2 : ∀ (n_2 : Nat) (i : Nat) (h : Nat → Int32), (i ≤ n) → (∀ j, j < i → h j = f j) → (n - i < n_2) → Go E Q 3 0 0 2 [(0, .ref q1), (1, .ref q2), (2, .int (nI i))] [] ([(q2, .inl (cI, n, .inl h))] ++ ([(q1, .inl (cI, n, .inl f))])) := by
    intro n_2
    induction n_2 with
    | zero => intro i h hi hh hm_2; exact absurd hm_2 (Nat.not_lt_zero _)
    | succ n_2 ih_2 =>
      intro i h hi hh hm_2
      refine g_iload_n hE dX4_copyAll_2 2 rfl ?_
      refine g_aload_n hE dX4_copyAll_3 0 rfl ?_
      refine g_alen hE dX4_copyAll_4 1 (nI n) rfl rfl ?_
      refine g_icmp_ge hE 26 dX4_copyAll_5 (by decide) (fun c1 => ?_) (fun c1 => ?_)
      · have kc1 := nat_le_t (show (nI n) = nI n from rfl) (show (nI i) = nI i from rfl) (by omega) (by omega) c1
        refine g_arr_eq 0 (f := h) (g := f) rfl (fun j hj => hh j (by omega)) _ rfl ?_
        exact g_vret hE hQ dX4_copyAll_26 () rfl rfl trivial
      · have kc1 := nat_le_f (show (nI n) = nI n from rfl) (show (nI i) = nI i from rfl) (by omega) (by omega) c1
        refine g_iload_n hE dX4_copyAll_8 2 rfl ?_
        refine g_aload_n hE dX4_copyAll_9 1 rfl ?_
        refine g_alen hE dX4_copyAll_10 0 (nI n) rfl rfl ?_
        refine g_icmp_ge hE 26 dX4_copyAll_11 (by decide) (fun c2 => absurd (Int32.not_le.mp c1) (Int32.not_lt.mpr c2)) (fun c2 => ?_)
        refine g_aload_n hE dX4_copyAll_14 1 rfl ?_
        refine g_iload_n hE dX4_copyAll_15 2 rfl ?_
        refine g_aload_n hE dX4_copyAll_16 0 rfl ?_
        refine g_iload_n hE dX4_copyAll_17 2 rfl ?_
        refine g_iald_n hE dX4_copyAll_18 1 rfl (show (nI i) = nI i from rfl) (by omega) ?_ (hn := (by omega))
        refine g_iast_n hE dX4_copyAll_19 0 rfl (show (nI i) = nI i from rfl) (by omega) ([(q2, .inl (cI, n, .inl (upd h i (f i))))] ++ ([(q1, .inl (cI, n, .inl f))])) rfl ?_ (hn := (by omega))
        refine g_iinc hE dX4_copyAll_20 2 (nI (i + 1)) [(2, .int (nI (i + 1))), (0, .ref q1), (1, .ref q2)] rfl (nI_1 _) (by decide) rfl ?_
        refine g_goto hE 2 dX4_copyAll_23 (by decide) ?_
        refine g_locals [1, 2, 0] [(0, .ref q1), (1, .ref q2), (2, .int (nI (i + 1)))] rfl ?_
        exact ih_2 (i + 1) (upd h i (f i)) (by first | assumption | omega) (upd_pre hh rfl) (by omega)
  refine g_locals [1, 2, 0] [(0, .ref q1), (1, .ref q2), (2, .int 0)] rfl ?_
  exact L2 _ 0 g (Nat.zero_le _) (fun j hj => absurd hj (Nat.not_lt_zero _)) (Nat.lt_succ_self _)
set_option maxHeartbeats 4000000 in
set_option maxRecDepth 100000 in
theorem c_X0_addGrain (cI cS : ClassId) (a : Nat → Nat) (m : Nat → Nat → Int32) {n sv pl : Nat} (hM : MW m n sv pl) (x y z : Int32) (hlt : n < 6) : CT cI cS yX0_addGrain cX0_addGrain 4 (some .int) 1 [.ref (a 0), .int x, .int y, .int z] (millW cI a m) 0 0 (fun u : Int32 => u = nI n) (fun u => some (.int u)) (fun u => (millW cI a (addG m n x y z))) := by
  refine ct_intro (by decide) (Nat.le_of_ble_eq_true rfl) (fun E Q hE hQ hI => ?_)
  have hE : CxOk E cI cS RX0 cX0_addGrain 4 (some .int) 1 0 0 := hE
  show Go E Q 4 0 0 0 [(0, .ref (a 0)), (1, .int x), (2, .int y), (3, .int z)] [] (millW cI a m)
  have hn := hM.1
  have hn6 := hM.2.1
  have hsv := hM.2.2.1
  have hsv8 := hM.2.2.2.1
  have hpl := hM.2.2.2.2.1
  have hpl6 := hM.2.2.2.2.2
  refine g_aload_n hE dX0_addGrain_0 0 rfl ?_
  refine g_get hE fl_X0_9 dX0_addGrain_1 0 rfl rfl ?_
  refine g_aload_n hE dX0_addGrain_4 0 rfl ?_
  refine g_get hE fl_X0_39 dX0_addGrain_5 0 rfl rfl ?_
  refine g_iload_n hE dX0_addGrain_8 1 rfl ?_
  refine g_callSN hE (c_X4_put cI cS (a 1) 6 (m 0) (m 9 0) x (by decide)) mk_X4_put st_X4_put nl_X0_53 dX0_addGrain_9 (As := [.ref (a 1), .int (m 9 0), .int x]) (rest := []) rfl rfl (by decide) (by decide) (Nat.le_of_ble_eq_true rfl) (by decide) (by decide) [1] rfl (by decide) (fun u => Nat.le_of_ble_eq_true rfl) (ws' := fun u => millW cI a (pA m 0 u)) (fun u => rfl) (fun u hu => ?_)
  obtain ⟨f_1, rfl⟩ : ∃ z, z = u := ⟨_, rfl⟩
  have h2 : f_1 = putv (m 0) 6 (m 9 0) x := hu
  have h3 : f_1 = (upd (m 0) n x) := h2.trans (by rw [show (m 9 0) = nI n from hn]; exact putv_n (by omega) (by decide))
  subst h3
  show Go E Q 4 0 0 12 [(0, .ref (a 0)), (1, .int x), (2, .int y), (3, .int z)] [] (millW cI a (pA m 0 (upd (m 0) n x)))
  refine g_aload_n hE dX0_addGrain_12 0 rfl ?_
  refine g_get hE fl_X0_15 dX0_addGrain_13 0 rfl rfl ?_
  refine g_aload_n hE dX0_addGrain_16 0 rfl ?_
  refine g_get hE fl_X0_39 dX0_addGrain_17 0 rfl rfl ?_
  refine g_iload_n hE dX0_addGrain_20 2 rfl ?_
  refine g_callSN hE (c_X4_put cI cS (a 2) 6 (m 1) (m 9 0) y (by decide)) mk_X4_put st_X4_put nl_X0_53 dX0_addGrain_21 (As := [.ref (a 2), .int (m 9 0), .int y]) (rest := []) rfl rfl (by decide) (by decide) (Nat.le_of_ble_eq_true rfl) (by decide) (by decide) [2] rfl (by decide) (fun u => Nat.le_of_ble_eq_true rfl) (ws' := fun u => millW cI a (pA (pA m 0 (upd (m 0) n x)) 1 u)) (fun u => rfl) (fun u hu => ?_)
  obtain ⟨f_4, rfl⟩ : ∃ z, z = u := ⟨_, rfl⟩
  have h5 : f_4 = putv (m 1) 6 (m 9 0) y := hu
  have h6 : f_4 = (upd (m 1) n y) := h5.trans (by rw [show (m 9 0) = nI n from hn]; exact putv_n (by omega) (by decide))
  subst h6
  show Go E Q 4 0 0 24 [(0, .ref (a 0)), (1, .int x), (2, .int y), (3, .int z)] [] (millW cI a (pA (pA m 0 (upd (m 0) n x)) 1 (upd (m 1) n y)))
  refine g_aload_n hE dX0_addGrain_24 0 rfl ?_
  refine g_get hE fl_X0_18 dX0_addGrain_25 0 rfl rfl ?_
  refine g_aload_n hE dX0_addGrain_28 0 rfl ?_
  refine g_get hE fl_X0_39 dX0_addGrain_29 0 rfl rfl ?_
  refine g_iload_n hE dX0_addGrain_32 3 rfl ?_
  refine g_callSN hE (c_X4_put cI cS (a 3) 6 (m 2) (m 9 0) z (by decide)) mk_X4_put st_X4_put nl_X0_53 dX0_addGrain_33 (As := [.ref (a 3), .int (m 9 0), .int z]) (rest := []) rfl rfl (by decide) (by decide) (Nat.le_of_ble_eq_true rfl) (by decide) (by decide) [3] rfl (by decide) (fun u => Nat.le_of_ble_eq_true rfl) (ws' := fun u => millW cI a (pA (pA (pA m 0 (upd (m 0) n x)) 1 (upd (m 1) n y)) 2 u)) (fun u => rfl) (fun u hu => ?_)
  obtain ⟨f_7, rfl⟩ : ∃ z, z = u := ⟨_, rfl⟩
  have h8 : f_7 = putv (m 2) 6 (m 9 0) z := hu
  have h9 : f_7 = (upd (m 2) n z) := h8.trans (by rw [show (m 9 0) = nI n from hn]; exact putv_n (by omega) (by decide))
  subst h9
  show Go E Q 4 0 0 36 [(0, .ref (a 0)), (1, .int x), (2, .int y), (3, .int z)] [] (millW cI a (pA (pA (pA m 0 (upd (m 0) n x)) 1 (upd (m 1) n y)) 2 (upd (m 2) n z)))
  refine g_aload_n hE dX0_addGrain_36 0 rfl ?_
  refine g_dup hE dX0_addGrain_37 rfl ?_
  refine g_get hE fl_X0_39 dX0_addGrain_38 0 rfl rfl ?_
  refine g_iconst hE dX0_addGrain_41 1 (by decide) ?_
  refine g_iadd_n hE dX0_addGrain_42 hn (show 1 = nI 1 from rfl) ?_
  refine g_put hE fl_X0_39 fp_0_0 dX0_addGrain_43 0 rfl rfl rfl (Nat.le_of_ble_eq_true rfl) (millW cI a (pA (pA (pA (pA m 0 (upd (m 0) n x)) 1 (upd (m 1) n y)) 2 (upd (m 2) n z)) 9 (upd (m 9) 0 (nI (n + 1))))) rfl ?_
  refine g_aload_n hE dX0_addGrain_46 0 rfl ?_
  refine g_get hE fl_X0_39 dX0_addGrain_47 0 rfl rfl ?_
  refine g_iconst hE dX0_addGrain_50 1 (by decide) ?_
  refine g_isub_n hE dX0_addGrain_51 (show (nI (n + 1)) = nI (n + 1) from rfl) (show 1 = nI 1 from rfl) (by omega) ?_
  exact g_iret hE hQ dX0_addGrain_52 rfl (nI ((n + 1) - 1)) rfl rfl (by rw [Nat.add_sub_cancel])
set_option maxHeartbeats 4000000 in
set_option maxRecDepth 100000 in
theorem c_X0_addSieve (cI cS : ClassId) (a : Nat → Nat) (m : Nat → Nat → Int32) {n sv pl : Nat} (hM : MW m n sv pl) (x y z w : Int32) (hlt : sv < 8) : CT cI cS yX0_addSieve cX0_addSieve 5 (some .int) 1 [.ref (a 0), .int x, .int y, .int z, .int w] (millW cI a m) 0 0 (fun u : Int32 => u = nI sv) (fun u => some (.int u)) (fun u => (millW cI a (addV m sv x y z w))) := by
  refine ct_intro (by decide) (Nat.le_of_ble_eq_true rfl) (fun E Q hE hQ hI => ?_)
  have hE : CxOk E cI cS RX0 cX0_addSieve 5 (some .int) 1 0 0 := hE
  show Go E Q 5 0 0 0 [(0, .ref (a 0)), (1, .int x), (2, .int y), (3, .int z), (4, .int w)] [] (millW cI a m)
  have hn := hM.1
  have hn6 := hM.2.1
  have hsv := hM.2.2.1
  have hsv8 := hM.2.2.2.1
  have hpl := hM.2.2.2.2.1
  have hpl6 := hM.2.2.2.2.2
  refine g_aload_n hE dX0_addSieve_0 0 rfl ?_
  refine g_get hE fl_X0_21 dX0_addSieve_1 0 rfl rfl ?_
  refine g_aload_n hE dX0_addSieve_4 0 rfl ?_
  refine g_get hE fl_X0_43 dX0_addSieve_5 0 rfl rfl ?_
  refine g_iload_n hE dX0_addSieve_8 1 rfl ?_
  refine g_callSN hE (c_X4_put cI cS (a 4) 8 (m 3) (m 9 1) x (by decide)) mk_X4_put st_X4_put nl_X0_53 dX0_addSieve_9 (As := [.ref (a 4), .int (m 9 1), .int x]) (rest := []) rfl rfl (by decide) (by decide) (Nat.le_of_ble_eq_true rfl) (by decide) (by decide) [4] rfl (by decide) (fun u => Nat.le_of_ble_eq_true rfl) (ws' := fun u => millW cI a (pA m 3 u)) (fun u => rfl) (fun u hu => ?_)
  obtain ⟨f_1, rfl⟩ : ∃ z, z = u := ⟨_, rfl⟩
  have h2 : f_1 = putv (m 3) 8 (m 9 1) x := hu
  have h3 : f_1 = (upd (m 3) sv x) := h2.trans (by rw [show (m 9 1) = nI sv from hsv]; exact putv_n (by omega) (by decide))
  subst h3
  show Go E Q 5 0 0 12 [(0, .ref (a 0)), (1, .int x), (2, .int y), (3, .int z), (4, .int w)] [] (millW cI a (pA m 3 (upd (m 3) sv x)))
  refine g_aload_n hE dX0_addSieve_12 0 rfl ?_
  refine g_get hE fl_X0_24 dX0_addSieve_13 0 rfl rfl ?_
  refine g_aload_n hE dX0_addSieve_16 0 rfl ?_
  refine g_get hE fl_X0_43 dX0_addSieve_17 0 rfl rfl ?_
  refine g_iload_n hE dX0_addSieve_20 2 rfl ?_
  refine g_callSN hE (c_X4_put cI cS (a 5) 8 (m 4) (m 9 1) y (by decide)) mk_X4_put st_X4_put nl_X0_53 dX0_addSieve_21 (As := [.ref (a 5), .int (m 9 1), .int y]) (rest := []) rfl rfl (by decide) (by decide) (Nat.le_of_ble_eq_true rfl) (by decide) (by decide) [5] rfl (by decide) (fun u => Nat.le_of_ble_eq_true rfl) (ws' := fun u => millW cI a (pA (pA m 3 (upd (m 3) sv x)) 4 u)) (fun u => rfl) (fun u hu => ?_)
  obtain ⟨f_4, rfl⟩ : ∃ z, z = u := ⟨_, rfl⟩
  have h5 : f_4 = putv (m 4) 8 (m 9 1) y := hu
  have h6 : f_4 = (upd (m 4) sv y) := h5.trans (by rw [show (m 9 1) = nI sv from hsv]; exact putv_n (by omega) (by decide))
  subst h6
  show Go E Q 5 0 0 24 [(0, .ref (a 0)), (1, .int x), (2, .int y), (3, .int z), (4, .int w)] [] (millW cI a (pA (pA m 3 (upd (m 3) sv x)) 4 (upd (m 4) sv y)))
  refine g_aload_n hE dX0_addSieve_24 0 rfl ?_
  refine g_get hE fl_X0_27 dX0_addSieve_25 0 rfl rfl ?_
  refine g_aload_n hE dX0_addSieve_28 0 rfl ?_
  refine g_get hE fl_X0_43 dX0_addSieve_29 0 rfl rfl ?_
  refine g_iload_n hE dX0_addSieve_32 3 rfl ?_
  refine g_callSN hE (c_X4_put cI cS (a 6) 8 (m 5) (m 9 1) z (by decide)) mk_X4_put st_X4_put nl_X0_53 dX0_addSieve_33 (As := [.ref (a 6), .int (m 9 1), .int z]) (rest := []) rfl rfl (by decide) (by decide) (Nat.le_of_ble_eq_true rfl) (by decide) (by decide) [6] rfl (by decide) (fun u => Nat.le_of_ble_eq_true rfl) (ws' := fun u => millW cI a (pA (pA (pA m 3 (upd (m 3) sv x)) 4 (upd (m 4) sv y)) 5 u)) (fun u => rfl) (fun u hu => ?_)
  obtain ⟨f_7, rfl⟩ : ∃ z, z = u := ⟨_, rfl⟩
  have h8 : f_7 = putv (m 5) 8 (m 9 1) z := hu
  have h9 : f_7 = (upd (m 5) sv z) := h8.trans (by rw [show (m 9 1) = nI sv from hsv]; exact putv_n (by omega) (by decide))
  subst h9
  show Go E Q 5 0 0 36 [(0, .ref (a 0)), (1, .int x), (2, .int y), (3, .int z), (4, .int w)] [] (millW cI a (pA (pA (pA m 3 (upd (m 3) sv x)) 4 (upd (m 4) sv y)) 5 (upd (m 5) sv z)))
  refine g_aload_n hE dX0_addSieve_36 0 rfl ?_
  refine g_get hE fl_X0_30 dX0_addSieve_37 0 rfl rfl ?_
  refine g_aload_n hE dX0_addSieve_40 0 rfl ?_
  refine g_get hE fl_X0_43 dX0_addSieve_41 0 rfl rfl ?_
  refine g_iload hE dX0_addSieve_44 4 rfl ?_
  refine g_callSN hE (c_X4_put cI cS (a 7) 8 (m 6) (m 9 1) w (by decide)) mk_X4_put st_X4_put nl_X0_53 dX0_addSieve_46 (As := [.ref (a 7), .int (m 9 1), .int w]) (rest := []) rfl rfl (by decide) (by decide) (Nat.le_of_ble_eq_true rfl) (by decide) (by decide) [7] rfl (by decide) (fun u => Nat.le_of_ble_eq_true rfl) (ws' := fun u => millW cI a (pA (pA (pA (pA m 3 (upd (m 3) sv x)) 4 (upd (m 4) sv y)) 5 (upd (m 5) sv z)) 6 u)) (fun u => rfl) (fun u hu => ?_)
  obtain ⟨f_10, rfl⟩ : ∃ z, z = u := ⟨_, rfl⟩
  have h11 : f_10 = putv (m 6) 8 (m 9 1) w := hu
  have h12 : f_10 = (upd (m 6) sv w) := h11.trans (by rw [show (m 9 1) = nI sv from hsv]; exact putv_n (by omega) (by decide))
  subst h12
  show Go E Q 5 0 0 49 [(0, .ref (a 0)), (1, .int x), (2, .int y), (3, .int z), (4, .int w)] [] (millW cI a (pA (pA (pA (pA m 3 (upd (m 3) sv x)) 4 (upd (m 4) sv y)) 5 (upd (m 5) sv z)) 6 (upd (m 6) sv w)))
  refine g_aload_n hE dX0_addSieve_49 0 rfl ?_
  refine g_dup hE dX0_addSieve_50 rfl ?_
  refine g_get hE fl_X0_43 dX0_addSieve_51 0 rfl rfl ?_
  refine g_iconst hE dX0_addSieve_54 1 (by decide) ?_
  refine g_iadd_n hE dX0_addSieve_55 hsv (show 1 = nI 1 from rfl) ?_
  refine g_put hE fl_X0_43 fp_0_1 dX0_addSieve_56 0 rfl rfl rfl (Nat.le_of_ble_eq_true rfl) (millW cI a (pA (pA (pA (pA (pA m 3 (upd (m 3) sv x)) 4 (upd (m 4) sv y)) 5 (upd (m 5) sv z)) 6 (upd (m 6) sv w)) 9 (upd (m 9) 1 (nI (sv + 1))))) rfl ?_
  refine g_aload_n hE dX0_addSieve_59 0 rfl ?_
  refine g_get hE fl_X0_43 dX0_addSieve_60 0 rfl rfl ?_
  refine g_iconst hE dX0_addSieve_63 1 (by decide) ?_
  refine g_isub_n hE dX0_addSieve_64 (show (nI (sv + 1)) = nI (sv + 1) from rfl) (show 1 = nI 1 from rfl) (by omega) ?_
  exact g_iret hE hQ dX0_addSieve_65 rfl (nI ((sv + 1) - 1)) rfl rfl (by rw [Nat.add_sub_cancel])
set_option maxHeartbeats 4000000 in
set_option maxRecDepth 100000 in
theorem c_X0_addPlace (cI cS : ClassId) (a : Nat → Nat) (m : Nat → Nat → Int32) {n sv pl : Nat} (hM : MW m n sv pl) (x : Int32) (hlt : pl < 6) : CT cI cS yX0_addPlace cX0_addPlace 2 none 1 [.ref (a 0), .int x] (millW cI a m) 0 0 (fun u : Unit => True) (fun u => none) (fun u => (millW cI a (addP m pl x))) := by
  refine ct_intro (by decide) (Nat.le_of_ble_eq_true rfl) (fun E Q hE hQ hI => ?_)
  have hE : CxOk E cI cS RX0 cX0_addPlace 2 none 1 0 0 := hE
  show Go E Q 2 0 0 0 [(0, .ref (a 0)), (1, .int x)] [] (millW cI a m)
  have hn := hM.1
  have hn6 := hM.2.1
  have hsv := hM.2.2.1
  have hsv8 := hM.2.2.2.1
  have hpl := hM.2.2.2.2.1
  have hpl6 := hM.2.2.2.2.2
  refine g_aload_n hE dX0_addPlace_0 0 rfl ?_
  refine g_get hE fl_X0_33 dX0_addPlace_1 0 rfl rfl ?_
  refine g_aload_n hE dX0_addPlace_4 0 rfl ?_
  refine g_get hE fl_X0_46 dX0_addPlace_5 0 rfl rfl ?_
  refine g_iload_n hE dX0_addPlace_8 1 rfl ?_
  refine g_callSN hE (c_X4_put cI cS (a 8) 6 (m 7) (m 9 2) x (by decide)) mk_X4_put st_X4_put nl_X0_53 dX0_addPlace_9 (As := [.ref (a 8), .int (m 9 2), .int x]) (rest := []) rfl rfl (by decide) (by decide) (Nat.le_of_ble_eq_true rfl) (by decide) (by decide) [8] rfl (by decide) (fun u => Nat.le_of_ble_eq_true rfl) (ws' := fun u => millW cI a (pA m 7 u)) (fun u => rfl) (fun u hu => ?_)
  obtain ⟨f_1, rfl⟩ : ∃ z, z = u := ⟨_, rfl⟩
  have h2 : f_1 = putv (m 7) 6 (m 9 2) x := hu
  have h3 : f_1 = (upd (m 7) pl x) := h2.trans (by rw [show (m 9 2) = nI pl from hpl]; exact putv_n (by omega) (by decide))
  subst h3
  show Go E Q 2 0 0 12 [(0, .ref (a 0)), (1, .int x)] [] (millW cI a (pA m 7 (upd (m 7) pl x)))
  refine g_aload_n hE dX0_addPlace_12 0 rfl ?_
  refine g_dup hE dX0_addPlace_13 rfl ?_
  refine g_get hE fl_X0_46 dX0_addPlace_14 0 rfl rfl ?_
  refine g_iconst hE dX0_addPlace_17 1 (by decide) ?_
  refine g_iadd_n hE dX0_addPlace_18 hpl (show 1 = nI 1 from rfl) ?_
  refine g_put hE fl_X0_46 fp_0_2 dX0_addPlace_19 0 rfl rfl rfl (Nat.le_of_ble_eq_true rfl) (millW cI a (pA (pA m 7 (upd (m 7) pl x)) 9 (upd (m 9) 2 (nI (pl + 1))))) rfl ?_
  exact g_vret hE hQ dX0_addPlace_22 () rfl rfl trivial
set_option maxHeartbeats 4000000 in
set_option maxRecDepth 100000 in
theorem c_X0_takeGrains (cI cS : ClassId) (a b : Nat → Nat) (m v : Nat → Nat → Int32) : CT cI cS yX0_takeGrains cX0_takeGrains 2 none 1 [.ref (a 0), .ref (b 0)] (millW cI a m ++ (millW cI b v)) 0 0 (fun u : Unit => True) (fun u => none) (fun u => (millW cI a (tkG m v) ++ (millW cI b v))) := by
  refine ct_intro (by decide) (Nat.le_of_ble_eq_true rfl) (fun E Q hE hQ hI => ?_)
  have hE : CxOk E cI cS RX0 cX0_takeGrains 2 none 1 0 0 := hE
  show Go E Q 2 0 0 0 [(0, .ref (a 0)), (1, .ref (b 0))] [] (millW cI a m ++ (millW cI b v))
  refine g_aload_n hE dX0_takeGrains_0 0 rfl ?_
  refine g_aload_n hE dX0_takeGrains_1 1 rfl ?_
  refine g_get hE fl_X0_39 dX0_takeGrains_2 10 rfl rfl ?_
  refine g_put hE fl_X0_39 fp_0_0 dX0_takeGrains_5 0 rfl rfl rfl (Nat.le_of_ble_eq_true rfl) (millW cI a (pA m 9 (upd (m 9) 0 (v 9 0))) ++ (millW cI b v)) rfl ?_
  refine g_aload_n hE dX0_takeGrains_8 1 rfl ?_
  refine g_get hE fl_X0_9 dX0_takeGrains_9 10 rfl rfl ?_
  refine g_aload_n hE dX0_takeGrains_12 0 rfl ?_
  refine g_get hE fl_X0_9 dX0_takeGrains_13 0 rfl rfl ?_
  refine g_callSN hE (c_X4_copyAll_s cI cS (b 1) (a 1) 6 (v 0) (m 0) (by decide)) mk_X4_copyAll st_X4_copyAll nl_X0_57 dX0_takeGrains_16 (As := [.ref (b 1), .ref (a 1)]) (rest := []) rfl rfl (by decide) (by decide) (Nat.le_of_ble_eq_true rfl) (by decide) (by decide) [1, 11] rfl (by decide) (fun u => Nat.le_of_ble_eq_true rfl) (ws' := fun u => millW cI a (pA (pA m 9 (upd (m 9) 0 (v 9 0))) 0 (v 0)) ++ (millW cI b v)) (fun u => rfl) (fun u hu => ?_)
  show Go E Q 2 0 0 19 [(0, .ref (a 0)), (1, .ref (b 0))] [] (millW cI a (pA (pA m 9 (upd (m 9) 0 (v 9 0))) 0 (v 0)) ++ (millW cI b v))
  refine g_aload_n hE dX0_takeGrains_19 1 rfl ?_
  refine g_get hE fl_X0_15 dX0_takeGrains_20 10 rfl rfl ?_
  refine g_aload_n hE dX0_takeGrains_23 0 rfl ?_
  refine g_get hE fl_X0_15 dX0_takeGrains_24 0 rfl rfl ?_
  refine g_callSN hE (c_X4_copyAll_s cI cS (b 2) (a 2) 6 (v 1) (m 1) (by decide)) mk_X4_copyAll st_X4_copyAll nl_X0_57 dX0_takeGrains_27 (As := [.ref (b 2), .ref (a 2)]) (rest := []) rfl rfl (by decide) (by decide) (Nat.le_of_ble_eq_true rfl) (by decide) (by decide) [2, 12] rfl (by decide) (fun u => Nat.le_of_ble_eq_true rfl) (ws' := fun u => millW cI a (pA (pA (pA m 9 (upd (m 9) 0 (v 9 0))) 0 (v 0)) 1 (v 1)) ++ (millW cI b v)) (fun u => rfl) (fun u hu => ?_)
  show Go E Q 2 0 0 30 [(0, .ref (a 0)), (1, .ref (b 0))] [] (millW cI a (pA (pA (pA m 9 (upd (m 9) 0 (v 9 0))) 0 (v 0)) 1 (v 1)) ++ (millW cI b v))
  refine g_aload_n hE dX0_takeGrains_30 1 rfl ?_
  refine g_get hE fl_X0_18 dX0_takeGrains_31 10 rfl rfl ?_
  refine g_aload_n hE dX0_takeGrains_34 0 rfl ?_
  refine g_get hE fl_X0_18 dX0_takeGrains_35 0 rfl rfl ?_
  refine g_callSN hE (c_X4_copyAll_s cI cS (b 3) (a 3) 6 (v 2) (m 2) (by decide)) mk_X4_copyAll st_X4_copyAll nl_X0_57 dX0_takeGrains_38 (As := [.ref (b 3), .ref (a 3)]) (rest := []) rfl rfl (by decide) (by decide) (Nat.le_of_ble_eq_true rfl) (by decide) (by decide) [3, 13] rfl (by decide) (fun u => Nat.le_of_ble_eq_true rfl) (ws' := fun u => millW cI a (pA (pA (pA (pA m 9 (upd (m 9) 0 (v 9 0))) 0 (v 0)) 1 (v 1)) 2 (v 2)) ++ (millW cI b v)) (fun u => rfl) (fun u hu => ?_)
  show Go E Q 2 0 0 41 [(0, .ref (a 0)), (1, .ref (b 0))] [] (millW cI a (pA (pA (pA (pA m 9 (upd (m 9) 0 (v 9 0))) 0 (v 0)) 1 (v 1)) 2 (v 2)) ++ (millW cI b v))
  exact g_vret hE hQ dX0_takeGrains_41 () rfl rfl trivial
set_option maxHeartbeats 4000000 in
set_option maxRecDepth 100000 in
theorem c_X0_takeSieves (cI cS : ClassId) (a b : Nat → Nat) (m v : Nat → Nat → Int32) : CT cI cS yX0_takeSieves cX0_takeSieves 2 none 1 [.ref (a 0), .ref (b 0)] (millW cI a m ++ (millW cI b v)) 0 0 (fun u : Unit => True) (fun u => none) (fun u => (millW cI a (tkV m v) ++ (millW cI b v))) := by
  refine ct_intro (by decide) (Nat.le_of_ble_eq_true rfl) (fun E Q hE hQ hI => ?_)
  have hE : CxOk E cI cS RX0 cX0_takeSieves 2 none 1 0 0 := hE
  show Go E Q 2 0 0 0 [(0, .ref (a 0)), (1, .ref (b 0))] [] (millW cI a m ++ (millW cI b v))
  refine g_aload_n hE dX0_takeSieves_0 0 rfl ?_
  refine g_aload_n hE dX0_takeSieves_1 1 rfl ?_
  refine g_get hE fl_X0_43 dX0_takeSieves_2 10 rfl rfl ?_
  refine g_put hE fl_X0_43 fp_0_1 dX0_takeSieves_5 0 rfl rfl rfl (Nat.le_of_ble_eq_true rfl) (millW cI a (pA m 9 (upd (m 9) 1 (v 9 1))) ++ (millW cI b v)) rfl ?_
  refine g_aload_n hE dX0_takeSieves_8 1 rfl ?_
  refine g_get hE fl_X0_21 dX0_takeSieves_9 10 rfl rfl ?_
  refine g_aload_n hE dX0_takeSieves_12 0 rfl ?_
  refine g_get hE fl_X0_21 dX0_takeSieves_13 0 rfl rfl ?_
  refine g_callSN hE (c_X4_copyAll_s cI cS (b 4) (a 4) 8 (v 3) (m 3) (by decide)) mk_X4_copyAll st_X4_copyAll nl_X0_57 dX0_takeSieves_16 (As := [.ref (b 4), .ref (a 4)]) (rest := []) rfl rfl (by decide) (by decide) (Nat.le_of_ble_eq_true rfl) (by decide) (by decide) [4, 14] rfl (by decide) (fun u => Nat.le_of_ble_eq_true rfl) (ws' := fun u => millW cI a (pA (pA m 9 (upd (m 9) 1 (v 9 1))) 3 (v 3)) ++ (millW cI b v)) (fun u => rfl) (fun u hu => ?_)
  show Go E Q 2 0 0 19 [(0, .ref (a 0)), (1, .ref (b 0))] [] (millW cI a (pA (pA m 9 (upd (m 9) 1 (v 9 1))) 3 (v 3)) ++ (millW cI b v))
  refine g_aload_n hE dX0_takeSieves_19 1 rfl ?_
  refine g_get hE fl_X0_24 dX0_takeSieves_20 10 rfl rfl ?_
  refine g_aload_n hE dX0_takeSieves_23 0 rfl ?_
  refine g_get hE fl_X0_24 dX0_takeSieves_24 0 rfl rfl ?_
  refine g_callSN hE (c_X4_copyAll_s cI cS (b 5) (a 5) 8 (v 4) (m 4) (by decide)) mk_X4_copyAll st_X4_copyAll nl_X0_57 dX0_takeSieves_27 (As := [.ref (b 5), .ref (a 5)]) (rest := []) rfl rfl (by decide) (by decide) (Nat.le_of_ble_eq_true rfl) (by decide) (by decide) [5, 15] rfl (by decide) (fun u => Nat.le_of_ble_eq_true rfl) (ws' := fun u => millW cI a (pA (pA (pA m 9 (upd (m 9) 1 (v 9 1))) 3 (v 3)) 4 (v 4)) ++ (millW cI b v)) (fun u => rfl) (fun u hu => ?_)
  show Go E Q 2 0 0 30 [(0, .ref (a 0)), (1, .ref (b 0))] [] (millW cI a (pA (pA (pA m 9 (upd (m 9) 1 (v 9 1))) 3 (v 3)) 4 (v 4)) ++ (millW cI b v))
  refine g_aload_n hE dX0_takeSieves_30 1 rfl ?_
  refine g_get hE fl_X0_27 dX0_takeSieves_31 10 rfl rfl ?_
  refine g_aload_n hE dX0_takeSieves_34 0 rfl ?_
  refine g_get hE fl_X0_27 dX0_takeSieves_35 0 rfl rfl ?_
  refine g_callSN hE (c_X4_copyAll_s cI cS (b 6) (a 6) 8 (v 5) (m 5) (by decide)) mk_X4_copyAll st_X4_copyAll nl_X0_57 dX0_takeSieves_38 (As := [.ref (b 6), .ref (a 6)]) (rest := []) rfl rfl (by decide) (by decide) (Nat.le_of_ble_eq_true rfl) (by decide) (by decide) [6, 16] rfl (by decide) (fun u => Nat.le_of_ble_eq_true rfl) (ws' := fun u => millW cI a (pA (pA (pA (pA m 9 (upd (m 9) 1 (v 9 1))) 3 (v 3)) 4 (v 4)) 5 (v 5)) ++ (millW cI b v)) (fun u => rfl) (fun u hu => ?_)
  show Go E Q 2 0 0 41 [(0, .ref (a 0)), (1, .ref (b 0))] [] (millW cI a (pA (pA (pA (pA m 9 (upd (m 9) 1 (v 9 1))) 3 (v 3)) 4 (v 4)) 5 (v 5)) ++ (millW cI b v))
  refine g_aload_n hE dX0_takeSieves_41 1 rfl ?_
  refine g_get hE fl_X0_30 dX0_takeSieves_42 10 rfl rfl ?_
  refine g_aload_n hE dX0_takeSieves_45 0 rfl ?_
  refine g_get hE fl_X0_30 dX0_takeSieves_46 0 rfl rfl ?_
  refine g_callSN hE (c_X4_copyAll_s cI cS (b 7) (a 7) 8 (v 6) (m 6) (by decide)) mk_X4_copyAll st_X4_copyAll nl_X0_57 dX0_takeSieves_49 (As := [.ref (b 7), .ref (a 7)]) (rest := []) rfl rfl (by decide) (by decide) (Nat.le_of_ble_eq_true rfl) (by decide) (by decide) [7, 17] rfl (by decide) (fun u => Nat.le_of_ble_eq_true rfl) (ws' := fun u => millW cI a (pA (pA (pA (pA (pA m 9 (upd (m 9) 1 (v 9 1))) 3 (v 3)) 4 (v 4)) 5 (v 5)) 6 (v 6)) ++ (millW cI b v)) (fun u => rfl) (fun u hu => ?_)
  show Go E Q 2 0 0 52 [(0, .ref (a 0)), (1, .ref (b 0))] [] (millW cI a (pA (pA (pA (pA (pA m 9 (upd (m 9) 1 (v 9 1))) 3 (v 3)) 4 (v 4)) 5 (v 5)) 6 (v 6)) ++ (millW cI b v))
  exact g_vret hE hQ dX0_takeSieves_52 () rfl rfl trivial
set_option maxHeartbeats 4000000 in
set_option maxRecDepth 100000 in
theorem c_X0_takeRow (cI cS : ClassId) (a b : Nat → Nat) (m v : Nat → Nat → Int32) : CT cI cS yX0_takeRow cX0_takeRow 2 none 1 [.ref (a 0), .ref (b 0)] (millW cI a m ++ (millW cI b v)) 0 0 (fun u : Unit => True) (fun u => none) (fun u => (millW cI a (tkR m v) ++ (millW cI b v))) := by
  refine ct_intro (by decide) (Nat.le_of_ble_eq_true rfl) (fun E Q hE hQ hI => ?_)
  have hE : CxOk E cI cS RX0 cX0_takeRow 2 none 1 0 0 := hE
  show Go E Q 2 0 0 0 [(0, .ref (a 0)), (1, .ref (b 0))] [] (millW cI a m ++ (millW cI b v))
  refine g_aload_n hE dX0_takeRow_0 0 rfl ?_
  refine g_aload_n hE dX0_takeRow_1 1 rfl ?_
  refine g_get hE fl_X0_46 dX0_takeRow_2 10 rfl rfl ?_
  refine g_put hE fl_X0_46 fp_0_2 dX0_takeRow_5 0 rfl rfl rfl (Nat.le_of_ble_eq_true rfl) (millW cI a (pA m 9 (upd (m 9) 2 (v 9 2))) ++ (millW cI b v)) rfl ?_
  refine g_aload_n hE dX0_takeRow_8 1 rfl ?_
  refine g_get hE fl_X0_33 dX0_takeRow_9 10 rfl rfl ?_
  refine g_aload_n hE dX0_takeRow_12 0 rfl ?_
  refine g_get hE fl_X0_33 dX0_takeRow_13 0 rfl rfl ?_
  refine g_callSN hE (c_X4_copyAll_s cI cS (b 8) (a 8) 6 (v 7) (m 7) (by decide)) mk_X4_copyAll st_X4_copyAll nl_X0_57 dX0_takeRow_16 (As := [.ref (b 8), .ref (a 8)]) (rest := []) rfl rfl (by decide) (by decide) (Nat.le_of_ble_eq_true rfl) (by decide) (by decide) [8, 18] rfl (by decide) (fun u => Nat.le_of_ble_eq_true rfl) (ws' := fun u => millW cI a (pA (pA m 9 (upd (m 9) 2 (v 9 2))) 7 (v 7)) ++ (millW cI b v)) (fun u => rfl) (fun u hu => ?_)
  show Go E Q 2 0 0 19 [(0, .ref (a 0)), (1, .ref (b 0))] [] (millW cI a (pA (pA m 9 (upd (m 9) 2 (v 9 2))) 7 (v 7)) ++ (millW cI b v))
  exact g_vret hE hQ dX0_takeRow_19 () rfl rfl trivial
set_option maxHeartbeats 4000000 in
set_option maxRecDepth 100000 in
theorem c_X0_takeAll (cI cS : ClassId) (a b : Nat → Nat) (m v : Nat → Nat → Int32) : CT cI cS yX0_takeAll cX0_takeAll 2 none 2 [.ref (a 0), .ref (b 0)] (millW cI a m ++ (millW cI b v)) 0 0 (fun u : Unit => True) (fun u => none) (fun u => (millW cI a (tkA m v) ++ (millW cI b v))) := by
  refine ct_intro (by decide) (Nat.le_of_ble_eq_true rfl) (fun E Q hE hQ hI => ?_)
  have hE : CxOk E cI cS RX0 cX0_takeAll 2 none 2 0 0 := hE
  show Go E Q 2 0 0 0 [(0, .ref (a 0)), (1, .ref (b 0))] [] (millW cI a m ++ (millW cI b v))
  refine g_aload_n hE dX0_takeAll_0 0 rfl ?_
  refine g_aload_n hE dX0_takeAll_1 1 rfl ?_
  refine g_callV hE (c_X0_takeGrains cI cS a b m v) mk_X0_takeGrains mv_X0_takeGrains ml_X0_61 dX0_takeAll_2 (As := [.ref (b 0)]) (rest := []) rfl rfl 0 rfl (show vwCl[0]? = some (RX0, TX0, 13) from rfl) (by decide) (by decide) (Nat.le_of_ble_eq_true rfl) (by decide) (by decide) [0, 1, 2, 3, 4, 5, 6, 7, 8, 9, 10, 11, 12, 13, 14, 15, 16, 17, 18, 19] rfl (by decide) (fun u => Nat.le_of_ble_eq_true rfl) (ws' := fun u => millW cI a (tkG m v) ++ (millW cI b v)) (fun u => rfl) (fun u hu => ?_)
  show Go E Q 2 0 0 5 [(0, .ref (a 0)), (1, .ref (b 0))] [] (millW cI a (tkG m v) ++ (millW cI b v))
  refine g_aload_n hE dX0_takeAll_5 0 rfl ?_
  refine g_aload_n hE dX0_takeAll_6 1 rfl ?_
  refine g_callV hE (c_X0_takeSieves cI cS a b (tkG m v) v) mk_X0_takeSieves mv_X0_takeSieves ml_X0_65 dX0_takeAll_7 (As := [.ref (b 0)]) (rest := []) rfl rfl 0 rfl (show vwCl[0]? = some (RX0, TX0, 13) from rfl) (by decide) (by decide) (Nat.le_of_ble_eq_true rfl) (by decide) (by decide) [0, 1, 2, 3, 4, 5, 6, 7, 8, 9, 10, 11, 12, 13, 14, 15, 16, 17, 18, 19] rfl (by decide) (fun u => Nat.le_of_ble_eq_true rfl) (ws' := fun u => millW cI a (tkV (tkG m v) v) ++ (millW cI b v)) (fun u => rfl) (fun u hu => ?_)
  show Go E Q 2 0 0 10 [(0, .ref (a 0)), (1, .ref (b 0))] [] (millW cI a (tkV (tkG m v) v) ++ (millW cI b v))
  refine g_aload_n hE dX0_takeAll_10 0 rfl ?_
  refine g_aload_n hE dX0_takeAll_11 1 rfl ?_
  refine g_callV hE (c_X0_takeRow cI cS a b (tkV (tkG m v) v) v) mk_X0_takeRow mv_X0_takeRow ml_X0_68 dX0_takeAll_12 (As := [.ref (b 0)]) (rest := []) rfl rfl 0 rfl (show vwCl[0]? = some (RX0, TX0, 13) from rfl) (by decide) (by decide) (Nat.le_of_ble_eq_true rfl) (by decide) (by decide) [0, 1, 2, 3, 4, 5, 6, 7, 8, 9, 10, 11, 12, 13, 14, 15, 16, 17, 18, 19] rfl (by decide) (fun u => Nat.le_of_ble_eq_true rfl) (ws' := fun u => millW cI a (tkR (tkV (tkG m v) v) v) ++ (millW cI b v)) (fun u => rfl) (fun u hu => ?_)
  show Go E Q 2 0 0 15 [(0, .ref (a 0)), (1, .ref (b 0))] [] (millW cI a (tkR (tkV (tkG m v) v) v) ++ (millW cI b v))
  refine g_aload_n hE dX0_takeAll_15 0 rfl ?_
  refine g_aload_n hE dX0_takeAll_16 1 rfl ?_
  refine g_get hE fl_X0_71 dX0_takeAll_17 10 rfl rfl ?_
  refine g_put hE fl_X0_71 fp_0_3 dX0_takeAll_20 0 rfl rfl rfl (Nat.le_of_ble_eq_true rfl) (millW cI a (pA (tkR (tkV (tkG m v) v) v) 9 (upd ((tkR (tkV (tkG m v) v) v) 9) 3 (v 9 3))) ++ (millW cI b v)) rfl ?_
  exact g_vret hE hQ dX0_takeAll_23 () rfl rfl trivial
end
section
/-! the mill: its row, its heaps -/
def inRb (m : Nat → Nat → Int32) (s : Int32) : Nat → Bool
  | 0 => false
  | k + 1 => inRb m s k || decide (m 7 k = s)
theorem inRb_n {m : Nat → Nat → Int32} {s : Int32} {k : Nat} (h : inRb m s k = false) (h2 : ¬ m 7 k = s) : inRb m s (k + 1) = false := by rw [inRb, h, decide_eq_false h2]; rfl
theorem inRb_at {m : Nat → Nat → Int32} {s : Int32} {k : Nat} (h : m 7 k = s) : ∀ {l : Nat}, k < l → inRb m s l = true
  | 0, q => absurd q (Nat.not_lt_zero _)
  | l + 1, q => by
    rw [inRb]
    by_cases e : k = l
    · subst e; rw [decide_eq_true h, Bool.or_true]
    · rw [inRb_at h (show k < l by omega), Bool.true_or]
theorem inRb_y {m : Nat → Nat → Int32} {s : Int32} {k l : Nat} (q : k < l) (h : m 7 k = s) : inRb m s l = true := inRb_at h q
theorem inRb_of {m : Nat → Nat → Int32} {s : Int32} : ∀ {l : Nat}, inRb m s l = true → ∃ k, k < l ∧ m 7 k = s
  | 0, h => by cases h
  | l + 1, h => by
    rw [inRb, Bool.or_eq_true] at h
    rcases h with h | h
    · obtain ⟨k, h1, h2⟩ := inRb_of h
      exact ⟨k, by omega, h2⟩
    · exact ⟨l, by omega, of_decide_eq_true h⟩
def hoR (hp : Nat → Nat) (g : Nat) : Nat → Nat → Int32
  | 0, _ => -4
  | f + 1, k => if (hp k).testBit g = true then nI k else hoR hp g f (k + 1)
theorem ho_t {x z : Int32} {s g : Nat} (hz : z = nI g) (hh : x = nI s ∧ s < 64) (hg : g < 6) (h : ¬ ((x >>> (z &&& 31)) &&& 1) = 0) : s.testBit g = true := by subst hz; exact bit_t hh.1 hh.2 hg h
theorem ho_f {x z : Int32} {s g : Nat} (hz : z = nI g) (hh : x = nI s ∧ s < 64) (hg : g < 6) (h : ((x >>> (z &&& 31)) &&& 1) = 0) : s.testBit g = false := by subst hz; exact bit_f hh.1 hh.2 hg h
def hzR (m : Nat → Nat → Int32) (z : Int32) : Nat → Nat → Int32
  | 0, k => nI k
  | f + 1, k => if atv (m 3) 8 (m 7 k) = 3 ∨ z ≤ atv (m 4) 8 (m 7 k) then hzR m z f (k + 1) else nI k
theorem spread_end {m : Nat → Nat → Int32} {n p pl : Nat} {h : Nat → Int32} {z : Int32} (hh : ∀ j, j < p → h j = nI (hpS m n (m 7) pl j)) (e : p = pl) (hz : z = nI (cmS m n (m 7) p)) : ∀ j, j ≤ pl → upd h pl z j = nI (hpS m n (m 7) pl j) := by
  subst e
  intro j hj
  unfold upd
  by_cases q : j = p
  · rw [if_pos q, q, hz, hpS, if_neg (by omega)]
  · rw [if_neg q, hh j (by omega)]
def tmS (k : Int32) : Int32 := if k = 1 then 0 else if k = 0 then 1 else 2
theorem tm1 {k : Int32} (h : k = 1) : tmS k = 0 := by unfold tmS; rw [if_pos h]
theorem tm0 {k : Int32} (h : k = 0) : tmS k = 1 := by subst h; rfl
theorem tm2 {k : Int32} (h : ¬ k = 1) (h2 : ¬ k = 0) : tmS k = 2 := by unfold tmS; rw [if_neg h, if_neg h2]
def widS (m : Nat → Nat → Int32) (v : Int32) : Nat → Nat → Int32 := pA m 4 (putv (m 4) 8 v (if 60 < (atv (m 4) 8 v + tmS (atv (m 3) 8 v) * atv (m 6) 8 v) then 60 else (atv (m 4) 8 v + tmS (atv (m 3) 8 v) * atv (m 6) 8 v)))
set_option maxHeartbeats 4000000 in
set_option maxRecDepth 100000 in
theorem c_X0_isInRow (cI cS : ClassId) (a : Nat → Nat) (m : Nat → Nat → Int32) {n sv pl : Nat} (hM : MW m n sv pl) (s : Int32) : CT cI cS yX0_isInRow cX0_isInRow 3 (some .boolean) 1 [.ref (a 0), .int s] (millW cI a m) 0 0 (fun u : Int32 => u = if inRb m s pl = true then 1 else 0) (fun u => some (.int u)) (fun u => (millW cI a m)) := by
  refine ct_intro (by decide) (Nat.le_of_ble_eq_true rfl) (fun E Q hE hQ hI => ?_)
  have hE : CxOk E cI cS RX0 cX0_isInRow 3 (some .boolean) 1 0 0 := hE
  show Go E Q 3 0 0 0 [(0, .ref (a 0)), (1, .int s)] [] (millW cI a m)
  have hn := hM.1
  have hn6 := hM.2.1
  have hsv := hM.2.2.1
  have hsv8 := hM.2.2.2.1
  have hpl := hM.2.2.2.2.1
  have hpl6 := hM.2.2.2.2.2
  refine g_iconst hE dX0_isInRow_0 0 (by decide) ?_
  refine g_istore_n hE dX0_isInRow_1 [(2, .int 0), (0, .ref (a 0)), (1, .int s)] rfl (by decide) rfl ?_
  have L2 : ∀ (n_2 : Nat) (p : Nat), (p ≤ pl) → (inRb m s p = false) → (pl - p < n_2) → Go E Q 3 0 0 2 [(0, .ref (a 0)), (1, .int s), (2, .int (nI p))] [] (millW cI a m) := by
    intro n_2
    induction n_2 with
    | zero => intro p hp hq hm_2; exact absurd hm_2 (Nat.not_lt_zero _)
    | succ n_2 ih_2 =>
      intro p hp hq hm_2
      refine g_iload_n hE dX0_isInRow_2 2 rfl ?_
      refine g_aload_n hE dX0_isInRow_3 0 rfl ?_
      refine g_get hE fl_X0_46 dX0_isInRow_4 0 rfl rfl ?_
      refine g_icmp_ge hE 30 dX0_isInRow_7 (by decide) (fun c1 => ?_) (fun c1 => ?_)
      · have kc1 := nat_le_t (show (m 9 2) = nI pl from hpl) (show (nI p) = nI p from rfl) (by omega) (by omega) c1
        refine g_iconst hE dX0_isInRow_30 0 (by decide) ?_
        exact g_iret hE hQ dX0_isInRow_31 (by first | rfl | decide) 0 rfl rfl (by rw [if_neg]; rw [show pl = p by omega, hq]; decide)
      · have kc1 := nat_le_f (show (m 9 2) = nI pl from hpl) (show (nI p) = nI p from rfl) (by omega) (by omega) c1
        refine g_aload_n hE dX0_isInRow_10 0 rfl ?_
        refine g_get hE fl_X0_33 dX0_isInRow_11 0 rfl rfl ?_
        refine g_iload_n hE dX0_isInRow_14 2 rfl ?_
        refine g_callSN hE (c_X4_at cI cS (a 8) 6 (m 7) (nI p) (by decide)) mk_X4_at st_X4_at nl_X0_49 dX0_isInRow_15 (As := [.ref (a 8), .int (nI p)]) (rest := []) rfl rfl (by decide) (by decide) (Nat.le_of_ble_eq_true rfl) (by decide) (by decide) [8] rfl (by decide) (fun u => Nat.le_of_ble_eq_true rfl) (ws' := fun u => millW cI a m) (fun u => rfl) (fun u hu => ?_)
        obtain ⟨r_2, rfl⟩ : ∃ z, z = u := ⟨_, rfl⟩
        have h3 : r_2 = ((m 7) p) := hu.trans (by rw [show (nI p) = nI p from rfl]; exact atv_n (by omega) (by decide))
        subst h3
        show Go E Q 3 0 0 18 [(0, .ref (a 0)), (1, .int s), (2, .int (nI p))] [.int ((m 7) p)] (millW cI a m)
        refine g_iload_n hE dX0_isInRow_18 1 rfl ?_
        refine g_icmp_ne hE 24 dX0_isInRow_19 (by decide) (fun c4 => ?_) (fun c4 => ?_)
        · refine g_iinc hE dX0_isInRow_24 2 (nI (p + 1)) [(2, .int (nI (p + 1))), (0, .ref (a 0)), (1, .int s)] rfl (nI_1 _) (by decide) rfl ?_
          refine g_goto hE 2 dX0_isInRow_27 (by decide) ?_
          refine g_locals [1, 2, 0] [(0, .ref (a 0)), (1, .int s), (2, .int (nI (p + 1)))] rfl ?_
          exact ih_2 (p + 1) (by first | assumption | omega) (inRb_n hq (by assumption)) (by omega)
        · refine g_iconst hE dX0_isInRow_22 1 (by decide) ?_
          exact g_iret hE hQ dX0_isInRow_23 (by first | rfl | decide) 1 rfl rfl (if_pos (inRb_y (by assumption) (by assumption))).symm
  refine g_locals [1, 2, 0] [(0, .ref (a 0)), (1, .int s), (2, .int 0)] rfl ?_
  exact L2 _ 0 (Nat.zero_le _) rfl (Nat.lt_succ_self _)
set_option maxHeartbeats 4000000 in
set_option maxRecDepth 100000 in
theorem c_X0_heapOf (cI cS : ClassId) (a : Nat → Nat) (m : Nat → Nat → Int32) {n sv pl : Nat} (hM : MW m n sv pl) (z : Int32) (g : Nat) (hz : z = nI g) (hg : g < 6) (hp : Nat → Nat) (hh : ∀ j, j ≤ pl → m 8 j = nI (hp j) ∧ hp j < 64) : CT cI cS yX0_heapOf cX0_heapOf 3 (some .int) 1 [.ref (a 0), .int z] (millW cI a m) 0 0 (fun u : Int32 => u = hoR hp g (pl + 1) 0) (fun u => some (.int u)) (fun u => (millW cI a m)) := by
  refine ct_intro (by decide) (Nat.le_of_ble_eq_true rfl) (fun E Q hE hQ hI => ?_)
  have hE : CxOk E cI cS RX0 cX0_heapOf 3 (some .int) 1 0 0 := hE
  show Go E Q 3 0 0 0 [(0, .ref (a 0)), (1, .int z)] [] (millW cI a m)
  have hn := hM.1
  have hn6 := hM.2.1
  have hsv := hM.2.2.1
  have hsv8 := hM.2.2.2.1
  have hpl := hM.2.2.2.2.1
  have hpl6 := hM.2.2.2.2.2
  refine g_iconst hE dX0_heapOf_0 0 (by decide) ?_
  refine g_istore_n hE dX0_heapOf_1 [(2, .int 0), (0, .ref (a 0)), (1, .int z)] rfl (by decide) rfl ?_
  have L2 : ∀ (n_2 : Nat) (k : Nat), (k ≤ pl + 1) → (hoR hp g (pl + 1) 0 = hoR hp g (pl + 1 - k) k) → (pl + 1 - k < n_2) → Go E Q 3 0 0 2 [(0, .ref (a 0)), (1, .int z), (2, .int (nI k))] [] (millW cI a m) := by
    intro n_2
    induction n_2 with
    | zero => intro k hk hq hm_2; exact absurd hm_2 (Nat.not_lt_zero _)
    | succ n_2 ih_2 =>
      intro k hk hq hm_2
      refine g_iload_n hE dX0_heapOf_2 2 rfl ?_
      refine g_aload_n hE dX0_heapOf_3 0 rfl ?_
      refine g_get hE fl_X0_46 dX0_heapOf_4 0 rfl rfl ?_
      refine g_icmp_gt hE 33 dX0_heapOf_7 (by decide) (fun c1 => ?_) (fun c1 => ?_)
      · have kc1 := nat_lt_t (show (m 9 2) = nI pl from hpl) (show (nI k) = nI k from rfl) (by omega) (by omega) c1
        refine g_bipush hE dX0_heapOf_33 (-4) (by decide) ?_
        exact g_iret hE hQ dX0_heapOf_35 rfl (-4) rfl rfl (by rw [hq, show pl + 1 - k = 0 by omega]; rfl)
      · have kc1 := nat_lt_f (show (m 9 2) = nI pl from hpl) (show (nI k) = nI k from rfl) (by omega) (by omega) c1
        refine g_aload_n hE dX0_heapOf_10 0 rfl ?_
        refine g_get hE fl_X0_36 dX0_heapOf_11 0 rfl rfl ?_
        refine g_iload_n hE dX0_heapOf_14 2 rfl ?_
        refine g_callSN hE (c_X4_at cI cS (a 9) 7 (m 8) (nI k) (by decide)) mk_X4_at st_X4_at nl_X0_49 dX0_heapOf_15 (As := [.ref (a 9), .int (nI k)]) (rest := []) rfl rfl (by decide) (by decide) (Nat.le_of_ble_eq_true rfl) (by decide) (by decide) [9] rfl (by decide) (fun u => Nat.le_of_ble_eq_true rfl) (ws' := fun u => millW cI a m) (fun u => rfl) (fun u hu => ?_)
        obtain ⟨r_2, rfl⟩ : ∃ z, z = u := ⟨_, rfl⟩
        have h3 : r_2 = ((m 8) k) := hu.trans (by rw [show (nI k) = nI k from rfl]; exact atv_n (by omega) (by decide))
        subst h3
        show Go E Q 3 0 0 18 [(0, .ref (a 0)), (1, .int z), (2, .int (nI k))] [.int ((m 8) k)] (millW cI a m)
        refine g_iload_n hE dX0_heapOf_18 1 rfl ?_
        refine g_ishr hE dX0_heapOf_19 ?_
        refine g_iconst hE dX0_heapOf_20 1 (by decide) ?_
        refine g_iand hE dX0_heapOf_21 ?_
        refine g_if_eq hE 27 dX0_heapOf_22 (by decide) (fun c4 => ?_) (fun c4 => ?_)
        · refine g_iinc hE dX0_heapOf_27 2 (nI (k + 1)) [(2, .int (nI (k + 1))), (0, .ref (a 0)), (1, .int z)] rfl (nI_1 _) (by decide) rfl ?_
          refine g_goto hE 2 dX0_heapOf_30 (by decide) ?_
          refine g_locals [1, 2, 0] [(0, .ref (a 0)), (1, .int z), (2, .int (nI (k + 1)))] rfl ?_
          exact ih_2 (k + 1) (by first | assumption | omega) (by rw [hq, show pl + 1 - k = (pl + 1 - (k + 1)) + 1 by omega, hoR, if_neg (by rw [ho_f hz (hh k (by omega)) hg (by assumption)]; decide)]) (by omega)
        · refine g_iload_n hE dX0_heapOf_25 2 rfl ?_
          exact g_iret hE hQ dX0_heapOf_26 rfl (nI k) rfl rfl (by rw [hq, show pl + 1 - k = (pl - k) + 1 by omega, hoR, if_pos (ho_t hz (hh k (by omega)) hg (by assumption))])
  refine g_locals [1, 2, 0] [(0, .ref (a 0)), (1, .int z), (2, .int 0)] rfl ?_
  exact L2 _ 0 (Nat.zero_le _) rfl (Nat.lt_succ_self _)
set_option maxHeartbeats 4000000 in
set_option maxRecDepth 100000 in
theorem c_X0_heapOfSize (cI cS : ClassId) (a : Nat → Nat) (m : Nat → Nat → Int32) {n sv pl : Nat} (hM : MW m n sv pl) (z : Int32) : CT cI cS yX0_heapOfSize cX0_heapOfSize 3 (some .int) 2 [.ref (a 0), .int z] (millW cI a m) 0 0 (fun u : Int32 => u = hzR m z pl 0) (fun u => some (.int u)) (fun u => (millW cI a m)) := by
  refine ct_intro (by decide) (Nat.le_of_ble_eq_true rfl) (fun E Q hE hQ hI => ?_)
  have hE : CxOk E cI cS RX0 cX0_heapOfSize 3 (some .int) 2 0 0 := hE
  show Go E Q 3 0 0 0 [(0, .ref (a 0)), (1, .int z)] [] (millW cI a m)
  have hn := hM.1
  have hn6 := hM.2.1
  have hsv := hM.2.2.1
  have hsv8 := hM.2.2.2.1
  have hpl := hM.2.2.2.2.1
  have hpl6 := hM.2.2.2.2.2
  refine g_iconst hE dX0_heapOfSize_0 0 (by decide) ?_
  refine g_istore_n hE dX0_heapOfSize_1 [(2, .int 0), (0, .ref (a 0)), (1, .int z)] rfl (by decide) rfl ?_
  have L2 : ∀ (n_2 : Nat) (k : Nat), (k ≤ pl) → (hzR m z pl 0 = hzR m z (pl - k) k) → (pl - k < n_2) → Go E Q 3 0 0 2 [(0, .ref (a 0)), (1, .int z), (2, .int (nI k))] [] (millW cI a m) := by
    intro n_2
    induction n_2 with
    | zero => intro k hk hq hm_2; exact absurd hm_2 (Nat.not_lt_zero _)
    | succ n_2 ih_2 =>
      intro k hk hq hm_2
      refine g_iload_n hE dX0_heapOfSize_2 2 rfl ?_
      refine g_aload_n hE dX0_heapOfSize_3 0 rfl ?_
      refine g_get hE fl_X0_46 dX0_heapOfSize_4 0 rfl rfl ?_
      refine g_icmp_ge hE 34 dX0_heapOfSize_7 (by decide) (fun c1 => ?_) (fun c1 => ?_)
      · have kc1 := nat_le_t (show (m 9 2) = nI pl from hpl) (show (nI k) = nI k from rfl) (by omega) (by omega) c1
        refine g_aload_n hE dX0_heapOfSize_34 0 rfl ?_
        refine g_get hE fl_X0_46 dX0_heapOfSize_35 0 rfl rfl ?_
        exact g_iret hE hQ dX0_heapOfSize_38 rfl (m 9 2) rfl rfl (by rw [hq]; first | (rw [show pl - k = (pl - (k + 1)) + 1 by omega, hzR, if_neg (by assumption)]; done) | (rw [show pl - k = 0 by omega, hpl, show pl = k by omega]; rfl))
      · have kc1 := nat_le_f (show (m 9 2) = nI pl from hpl) (show (nI k) = nI k from rfl) (by omega) (by omega) c1
        refine g_aload_n hE dX0_heapOfSize_10 0 rfl ?_
        refine g_aload_n hE dX0_heapOfSize_11 0 rfl ?_
        refine g_get hE fl_X0_33 dX0_heapOfSize_12 0 rfl rfl ?_
        refine g_iload_n hE dX0_heapOfSize_15 2 rfl ?_
        refine g_callSN hE (c_X4_at cI cS (a 8) 6 (m 7) (nI k) (by decide)) mk_X4_at st_X4_at nl_X0_49 dX0_heapOfSize_16 (As := [.ref (a 8), .int (nI k)]) (rest := [.ref (a 0)]) rfl rfl (by decide) (by decide) (Nat.le_of_ble_eq_true rfl) (by decide) (by decide) [8] rfl (by decide) (fun u => Nat.le_of_ble_eq_true rfl) (ws' := fun u => millW cI a m) (fun u => rfl) (fun u hu => ?_)
        obtain ⟨r_2, rfl⟩ : ∃ z, z = u := ⟨_, rfl⟩
        have h3 : r_2 = ((m 7) k) := hu.trans (by rw [show (nI k) = nI k from rfl]; exact atv_n (by omega) (by decide))
        subst h3
        show Go E Q 3 0 0 19 [(0, .ref (a 0)), (1, .int z), (2, .int (nI k))] [.int ((m 7) k), .ref (a 0)] (millW cI a m)
        refine g_iload_n hE dX0_heapOfSize_19 1 rfl ?_
        refine g_callV hE (c_X0_letsFall cI cS a m (by first | assumption | exact mw_of (by assumption)) ((m 7) k) z) mk_X0_letsFall mv_X0_letsFall ml_X0_84 dX0_heapOfSize_20 (As := [.int ((m 7) k), .int z]) (rest := []) rfl rfl 0 rfl (show vwCl[0]? = some (RX0, TX0, 13) from rfl) (by decide) (by decide) (Nat.le_of_ble_eq_true rfl) (by decide) (by decide) [0, 1, 2, 3, 4, 5, 6, 7, 8, 9] rfl (by decide) (fun u => Nat.le_of_ble_eq_true rfl) (ws' := fun u => millW cI a m) (fun u => rfl) (fun u hu => ?_)
        obtain ⟨r_4, rfl⟩ : ∃ z, z = u := ⟨_, rfl⟩
        have h5 : r_4 = if atv (m 3) 8 ((m 7) k) = 3 ∨ z ≤ atv (m 4) 8 ((m 7) k) then 1 else 0 := hu
        by_cases c6 : atv (m 3) 8 ((m 7) k) = 3 ∨ z ≤ atv (m 4) 8 ((m 7) k)
        · rw [if_pos c6] at h5
          subst h5
          show Go E Q 3 0 0 23 [(0, .ref (a 0)), (1, .int z), (2, .int (nI k))] [.int 1] (millW cI a m)
          refine g_if_ne hE 28 dX0_heapOfSize_23 (by decide) (fun c7 => ?_) (fun c7 => absurd c7 (by decide))
          refine g_iinc hE dX0_heapOfSize_28 2 (nI (k + 1)) [(2, .int (nI (k + 1))), (0, .ref (a 0)), (1, .int z)] rfl (nI_1 _) (by decide) rfl ?_
          refine g_goto hE 2 dX0_heapOfSize_31 (by decide) ?_
          refine g_locals [1, 2, 0] [(0, .ref (a 0)), (1, .int z), (2, .int (nI (k + 1)))] rfl ?_
          exact ih_2 (k + 1) (by first | assumption | omega) (by rw [hq, show pl - k = (pl - (k + 1)) + 1 by omega, hzR, if_pos (by assumption)]) (by omega)
        · rw [if_neg c6] at h5
          subst h5
          show Go E Q 3 0 0 23 [(0, .ref (a 0)), (1, .int z), (2, .int (nI k))] [.int 0] (millW cI a m)
          refine g_if_ne hE 28 dX0_heapOfSize_23 (by decide) (fun c8 => absurd (by decide) c8) (fun c8 => ?_)
          refine g_iload_n hE dX0_heapOfSize_26 2 rfl ?_
          exact g_iret hE hQ dX0_heapOfSize_27 rfl (nI k) rfl rfl (by rw [hq]; first | (rw [show pl - k = (pl - (k + 1)) + 1 by omega, hzR, if_neg (by assumption)]; done) | (rw [show pl - k = 0 by omega, hpl, show pl = k by omega]; rfl))
  refine g_locals [1, 2, 0] [(0, .ref (a 0)), (1, .int z), (2, .int 0)] rfl ?_
  exact L2 _ 0 (Nat.zero_le _) rfl (Nat.lt_succ_self _)
set_option maxHeartbeats 4000000 in
set_option maxRecDepth 100000 in
theorem c_X0_spread (cI cS : ClassId) (a : Nat → Nat) (m : Nat → Nat → Int32) {n sv pl : Nat} (hM : MW m n sv pl) : CT cI cS yX0_spread cX0_spread 4 none 4 [.ref (a 0)] (millW cI a m) 0 0 (fun u : (Nat → Int32) => ∀ j, j ≤ pl → u j = nI (hpS m n (m 7) pl j)) (fun u => none) (fun u => (millW cI a (pA m 8 u))) := by
  refine ct_intro (by decide) (Nat.le_of_ble_eq_true rfl) (fun E Q hE hQ hI => ?_)
  have hE : CxOk E cI cS RX0 cX0_spread 4 none 4 0 0 := hE
  show Go E Q 4 0 0 0 [(0, .ref (a 0))] [] (millW cI a m)
  have hn := hM.1
  have hn6 := hM.2.1
  have hsv := hM.2.2.1
  have hsv8 := hM.2.2.2.1
  have hpl := hM.2.2.2.2.1
  have hpl6 := hM.2.2.2.2.2
  refine g_aload_n hE dX0_spread_0 0 rfl ?_
  refine g_callV hE (c_X0_load cI cS a m (by first | assumption | exact mw_of (by assumption))) mk_X0_load mv_X0_load ml_X0_94 dX0_spread_1 (As := []) (rest := []) rfl rfl 0 rfl (show vwCl[0]? = some (RX0, TX0, 13) from rfl) (by decide) (by decide) (Nat.le_of_ble_eq_true rfl) (by decide) (by decide) [0, 1, 2, 3, 4, 5, 6, 7, 8, 9] rfl (by decide) (fun u => Nat.le_of_ble_eq_true rfl) (ws' := fun u => millW cI a m) (fun u => rfl) (fun u hu => ?_)
  obtain ⟨r_1, rfl⟩ : ∃ z, z = u := ⟨_, rfl⟩
  have h2 : r_1 = (nI (ldS m n)) := hu
  subst h2
  show Go E Q 4 0 0 4 [(0, .ref (a 0))] [.int (nI (ldS m n))] (millW cI a m)
  refine g_istore_n hE dX0_spread_4 [(1, .int (nI (ldS m n))), (0, .ref (a 0))] rfl (by decide) rfl ?_
  refine g_iconst hE dX0_spread_5 0 (by decide) ?_
  refine g_istore_n hE dX0_spread_6 [(2, .int 0), (1, .int (nI (ldS m n))), (0, .ref (a 0))] rfl (by decide) rfl ?_
  have L7 : ∀ (n_7 : Nat) (p : Nat) (z : Int32) (h : Nat → Int32), (p ≤ pl) → (z = nI (cmS m n (m 7) p)) → (∀ j, j < p → h j = nI (hpS m n (m 7) pl j)) → (pl - p < n_7) → Go E Q 4 0 0 7 [(0, .ref (a 0)), (1, .int z), (2, .int (nI p))] [] (millW cI a (pA m 8 h)) := by
    intro n_7
    induction n_7 with
    | zero => intro p z h hp hz hh hm_7; exact absurd hm_7 (Nat.not_lt_zero _)
    | succ n_7 ih_7 =>
      intro p z h hp hz hh hm_7
      have hcm := cmS_lt (m := m) (row := m 7) hn6 p
      refine g_iload_n hE dX0_spread_7 2 rfl ?_
      refine g_aload_n hE dX0_spread_8 0 rfl ?_
      refine g_get hE fl_X0_46 dX0_spread_9 0 rfl rfl ?_
      refine g_icmp_ge hE 50 dX0_spread_12 (by decide) (fun c3 => ?_) (fun c3 => ?_)
      · have kc3 := nat_le_t (show (m 9 2) = nI pl from hpl) (show (nI p) = nI p from rfl) (by omega) (by omega) c3
        refine g_aload_n hE dX0_spread_50 0 rfl ?_
        refine g_get hE fl_X0_36 dX0_spread_51 0 rfl rfl ?_
        refine g_aload_n hE dX0_spread_54 0 rfl ?_
        refine g_get hE fl_X0_46 dX0_spread_55 0 rfl rfl ?_
        refine g_iload_n hE dX0_spread_58 1 rfl ?_
        refine g_callSN hE (c_X4_put cI cS (a 9) 7 h (m 9 2) z (by decide)) mk_X4_put st_X4_put nl_X0_53 dX0_spread_59 (As := [.ref (a 9), .int (m 9 2), .int z]) (rest := []) rfl rfl (by decide) (by decide) (Nat.le_of_ble_eq_true rfl) (by decide) (by decide) [9] rfl (by decide) (fun u => Nat.le_of_ble_eq_true rfl) (ws' := fun u => millW cI a (pA (pA m 8 h) 8 u)) (fun u => rfl) (fun u hu => ?_)
        obtain ⟨f_4, rfl⟩ : ∃ z, z = u := ⟨_, rfl⟩
        have h5 : f_4 = putv h 7 (m 9 2) z := hu
        have h6 : f_4 = (upd h pl z) := h5.trans (by rw [show (m 9 2) = nI pl from hpl]; exact putv_n (by omega) (by decide))
        subst h6
        show Go E Q 4 0 0 62 [(0, .ref (a 0)), (1, .int z), (2, .int (nI p))] [] (millW cI a (pA (pA m 8 h) 8 (upd h pl z)))
        exact g_vret hE hQ dX0_spread_62 (upd h pl z) rfl rfl (spread_end hh (show p = pl by omega) hz)
      · have kc3 := nat_le_f (show (m 9 2) = nI pl from hpl) (show (nI p) = nI p from rfl) (by omega) (by omega) c3
        refine g_aload_n hE dX0_spread_15 0 rfl ?_
        refine g_aload_n hE dX0_spread_16 0 rfl ?_
        refine g_get hE fl_X0_33 dX0_spread_17 0 rfl rfl ?_
        refine g_iload_n hE dX0_spread_20 2 rfl ?_
        refine g_callSN hE (c_X4_at cI cS (a 8) 6 (m 7) (nI p) (by decide)) mk_X4_at st_X4_at nl_X0_49 dX0_spread_21 (As := [.ref (a 8), .int (nI p)]) (rest := [.ref (a 0)]) rfl rfl (by decide) (by decide) (Nat.le_of_ble_eq_true rfl) (by decide) (by decide) [8] rfl (by decide) (fun u => Nat.le_of_ble_eq_true rfl) (ws' := fun u => millW cI a (pA m 8 h)) (fun u => rfl) (fun u hu => ?_)
        obtain ⟨r_7, rfl⟩ : ∃ z, z = u := ⟨_, rfl⟩
        have h8 : r_7 = ((m 7) p) := hu.trans (by rw [show (nI p) = nI p from rfl]; exact atv_n (by omega) (by decide))
        subst h8
        show Go E Q 4 0 0 24 [(0, .ref (a 0)), (1, .int z), (2, .int (nI p))] [.int ((m 7) p), .ref (a 0)] (millW cI a (pA m 8 h))
        refine g_iload_n hE dX0_spread_24 1 rfl ?_
        refine g_callV hE (c_X0_falling cI cS a (pA m 8 h) (by first | assumption | exact mw_of (by assumption)) ((m 7) p) z (cmS m n (m 7) p) (show z = nI (cmS m n (m 7) p) from hz) (by first | assumption | exact bs_lt64 _ (by assumption) | exact fallS_lt (by assumption) (by assumption) | exact nd_lt (by assumption) (by assumption) | exact nd_lt (by assumption) (fallS_lt (by assumption) (by assumption)) | exact nd_lt (by assumption) (bs_lt64 _ (by assumption)) | decide)) mk_X0_falling mv_X0_falling ml_X0_98 dX0_spread_25 (As := [.int ((m 7) p), .int z]) (rest := []) rfl rfl 0 rfl (show vwCl[0]? = some (RX0, TX0, 13) from rfl) (by decide) (by decide) (Nat.le_of_ble_eq_true rfl) (by decide) (by decide) [0, 1, 2, 3, 4, 5, 6, 7, 8, 9] rfl (by decide) (fun u => Nat.le_of_ble_eq_true rfl) (ws' := fun u => millW cI a (pA m 8 h)) (fun u => rfl) (fun u hu => ?_)
        obtain ⟨r_9, rfl⟩ : ∃ z, z = u := ⟨_, rfl⟩
        have h10 : r_9 = (nI (fallS m n ((m 7) p) (cmS m n (m 7) p))) := hu
        subst h10
        show Go E Q 4 0 0 28 [(0, .ref (a 0)), (1, .int z), (2, .int (nI p))] [.int (nI (fallS m n ((m 7) p) (cmS m n (m 7) p)))] (millW cI a (pA m 8 h))
        refine g_istore_n hE dX0_spread_28 [(3, .int (nI (fallS m n ((m 7) p) (cmS m n (m 7) p)))), (0, .ref (a 0)), (1, .int z), (2, .int (nI p))] rfl (by decide) rfl ?_
        refine g_aload_n hE dX0_spread_29 1 rfl ?_
        refine g_get hE fl_X0_36 dX0_spread_30 0 rfl rfl ?_
        refine g_iload_n hE dX0_spread_33 3 rfl ?_
        refine g_iload_n hE dX0_spread_34 2 rfl ?_
        refine g_iload_n hE dX0_spread_35 0 rfl ?_
        refine g_iconst hE dX0_spread_36 (-1) (by decide) ?_
        refine g_ixor hE dX0_spread_37 ?_
        refine g_iand hE dX0_spread_38 ?_
        refine g_callSN hE (c_X4_put cI cS (a 9) 7 h (nI p) (z &&& ((nI (fallS m n ((m 7) p) (cmS m n (m 7) p))) ^^^ (-1))) (by decide)) mk_X4_put st_X4_put nl_X0_53 dX0_spread_39 (As := [.ref (a 9), .int (nI p), .int (z &&& ((nI (fallS m n ((m 7) p) (cmS m n (m 7) p))) ^^^ (-1)))]) (rest := []) rfl rfl (by decide) (by decide) (Nat.le_of_ble_eq_true rfl) (by decide) (by decide) [9] rfl (by decide) (fun u => Nat.le_of_ble_eq_true rfl) (ws' := fun u => millW cI a (pA (pA m 8 h) 8 u)) (fun u => rfl) (fun u hu => ?_)
        obtain ⟨f_11, rfl⟩ : ∃ z, z = u := ⟨_, rfl⟩
        have h12 : f_11 = putv h 7 (nI p) (z &&& ((nI (fallS m n ((m 7) p) (cmS m n (m 7) p))) ^^^ (-1))) := hu
        have h13 : f_11 = (upd h p (z &&& ((nI (fallS m n ((m 7) p) (cmS m n (m 7) p))) ^^^ (-1)))) := h12.trans (by rw [show (nI p) = nI p from rfl]; exact putv_n (by omega) (by decide))
        subst h13
        show Go E Q 4 0 0 42 [(3, .int (nI (fallS m n ((m 7) p) (cmS m n (m 7) p)))), (0, .ref (a 0)), (1, .int z), (2, .int (nI p))] [] (millW cI a (pA (pA m 8 h) 8 (upd h p (z &&& ((nI (fallS m n ((m 7) p) (cmS m n (m 7) p))) ^^^ (-1))))))
        refine g_iload_n hE dX0_spread_42 0 rfl ?_
        refine g_istore_n hE dX0_spread_43 [(1, .int (nI (fallS m n ((m 7) p) (cmS m n (m 7) p)))), (3, .int (nI (fallS m n ((m 7) p) (cmS m n (m 7) p)))), (0, .ref (a 0)), (2, .int (nI p))] rfl (by decide) rfl ?_
        refine g_iinc hE dX0_spread_44 3 (nI (p + 1)) [(2, .int (nI (p + 1))), (1, .int (nI (fallS m n ((m 7) p) (cmS m n (m 7) p)))), (3, .int (nI (fallS m n ((m 7) p) (cmS m n (m 7) p)))), (0, .ref (a 0))] rfl (nI_1 _) (by decide) rfl ?_
        refine g_goto hE 7 dX0_spread_47 (by decide) ?_
        refine g_locals [3, 1, 0] [(0, .ref (a 0)), (1, .int (nI (fallS m n ((m 7) p) (cmS m n (m 7) p)))), (2, .int (nI (p + 1)))] rfl ?_
        exact ih_7 (p + 1) (nI (fallS m n ((m 7) p) (cmS m n (m 7) p))) (upd h p (z &&& ((nI (fallS m n ((m 7) p) (cmS m n (m 7) p))) ^^^ (-1)))) (by first | assumption | omega) rfl (upd_pre hh (by rw [hpS, if_pos (by omega)]; exact nd_i hz rfl hcm (fallS_lt hn6 hcm))) (by omega)
  refine g_locals [2, 1, 0] [(0, .ref (a 0)), (1, .int (nI (ldS m n))), (2, .int 0)] rfl ?_
  exact L7 _ 0 (nI (ldS m n)) (m 8) (Nat.zero_le _) rfl (fun j hj => absurd hj (Nat.not_lt_zero _)) (Nat.lt_succ_self _)
set_option maxHeartbeats 4000000 in
set_option maxRecDepth 100000 in
theorem c_X0_widen (cI cS : ClassId) (a : Nat → Nat) (m : Nat → Nat → Int32) {n sv pl : Nat} (hM : MW m n sv pl) (v : Int32) : CT cI cS yX0_widen cX0_widen 3 none 1 [.ref (a 0), .int v] (millW cI a m) 0 0 (fun u : Unit => True) (fun u => none) (fun u => (millW cI a (widS m v))) := by
  refine ct_intro (by decide) (Nat.le_of_ble_eq_true rfl) (fun E Q hE hQ hI => ?_)
  have hE : CxOk E cI cS RX0 cX0_widen 3 none 1 0 0 := hE
  show Go E Q 3 0 0 0 [(0, .ref (a 0)), (1, .int v)] [] (millW cI a m)
  have hn := hM.1
  have hn6 := hM.2.1
  have hsv := hM.2.2.1
  have hsv8 := hM.2.2.2.1
  have hpl := hM.2.2.2.2.1
  have hpl6 := hM.2.2.2.2.2
  refine g_aload_n hE dX0_widen_0 0 rfl ?_
  refine g_get hE fl_X0_21 dX0_widen_1 0 rfl rfl ?_
  refine g_iload_n hE dX0_widen_4 1 rfl ?_
  refine g_callSN hE (c_X4_at cI cS (a 4) 8 (m 3) v (by decide)) mk_X4_at st_X4_at nl_X0_49 dX0_widen_5 (As := [.ref (a 4), .int v]) (rest := []) rfl rfl (by decide) (by decide) (Nat.le_of_ble_eq_true rfl) (by decide) (by decide) [4] rfl (by decide) (fun u => Nat.le_of_ble_eq_true rfl) (ws' := fun u => millW cI a m) (fun u => rfl) (fun u hu => ?_)
  obtain ⟨r_1, rfl⟩ : ∃ z, z = u := ⟨_, rfl⟩
  have h2 : r_1 = (atv (m 3) 8 v) := hu
  subst h2
  show Go E Q 3 0 0 8 [(0, .ref (a 0)), (1, .int v)] [.int (atv (m 3) 8 v)] (millW cI a m)
  refine g_iconst hE dX0_widen_8 1 (by decide) ?_
  refine g_icmp_ne hE 16 dX0_widen_9 (by decide) (fun c3 => ?_) (fun c3 => ?_)
  · refine g_aload_n hE dX0_widen_16 0 rfl ?_
    refine g_get hE fl_X0_21 dX0_widen_17 0 rfl rfl ?_
    refine g_iload_n hE dX0_widen_20 1 rfl ?_
    refine g_callSN hE (c_X4_at cI cS (a 4) 8 (m 3) v (by decide)) mk_X4_at st_X4_at nl_X0_49 dX0_widen_21 (As := [.ref (a 4), .int v]) (rest := []) rfl rfl (by decide) (by decide) (Nat.le_of_ble_eq_true rfl) (by decide) (by decide) [4] rfl (by decide) (fun u => Nat.le_of_ble_eq_true rfl) (ws' := fun u => millW cI a m) (fun u => rfl) (fun u hu => ?_)
    obtain ⟨r_4, rfl⟩ : ∃ z, z = u := ⟨_, rfl⟩
    have h5 : r_4 = (atv (m 3) 8 v) := hu
    subst h5
    show Go E Q 3 0 0 24 [(0, .ref (a 0)), (1, .int v)] [.int (atv (m 3) 8 v)] (millW cI a m)
    refine g_if_ne hE 31 dX0_widen_24 (by decide) (fun c6 => ?_) (fun c6 => ?_)
    · refine g_iconst hE dX0_widen_31 2 (by decide) ?_
      refine g_istore_n hE dX0_widen_32 [(2, .int 2), (0, .ref (a 0)), (1, .int v)] rfl (by decide) rfl ?_
      refine g_aload_n hE dX0_widen_33 1 rfl ?_
      refine g_get hE fl_X0_24 dX0_widen_34 0 rfl rfl ?_
      refine g_iload_n hE dX0_widen_37 2 rfl ?_
      refine g_aload_n hE dX0_widen_38 1 rfl ?_
      refine g_get hE fl_X0_24 dX0_widen_39 0 rfl rfl ?_
      refine g_iload_n hE dX0_widen_42 2 rfl ?_
      refine g_callSN hE (c_X4_at cI cS (a 5) 8 (m 4) v (by decide)) mk_X4_at st_X4_at nl_X0_49 dX0_widen_43 (As := [.ref (a 5), .int v]) (rest := [.int v, .ref (a 5)]) rfl rfl (by decide) (by decide) (Nat.le_of_ble_eq_true rfl) (by decide) (by decide) [5] rfl (by decide) (fun u => Nat.le_of_ble_eq_true rfl) (ws' := fun u => millW cI a m) (fun u => rfl) (fun u hu => ?_)
      obtain ⟨r_7, rfl⟩ : ∃ z, z = u := ⟨_, rfl⟩
      have h8 : r_7 = (atv (m 4) 8 v) := hu
      subst h8
      show Go E Q 3 0 0 46 [(2, .int 2), (0, .ref (a 0)), (1, .int v)] [.int (atv (m 4) 8 v), .int v, .ref (a 5)] (millW cI a m)
      refine g_iload_n hE dX0_widen_46 0 rfl ?_
      refine g_aload_n hE dX0_widen_47 1 rfl ?_
      refine g_get hE fl_X0_30 dX0_widen_48 0 rfl rfl ?_
      refine g_iload_n hE dX0_widen_51 2 rfl ?_
      refine g_callSN hE (c_X4_at cI cS (a 7) 8 (m 6) v (by decide)) mk_X4_at st_X4_at nl_X0_49 dX0_widen_52 (As := [.ref (a 7), .int v]) (rest := [.int 2, .int (atv (m 4) 8 v), .int v, .ref (a 5)]) rfl rfl (by decide) (by decide) (Nat.le_of_ble_eq_true rfl) (by decide) (by decide) [7] rfl (by decide) (fun u => Nat.le_of_ble_eq_true rfl) (ws' := fun u => millW cI a m) (fun u => rfl) (fun u hu => ?_)
      obtain ⟨r_9, rfl⟩ : ∃ z, z = u := ⟨_, rfl⟩
      have h10 : r_9 = (atv (m 6) 8 v) := hu
      subst h10
      show Go E Q 3 0 0 55 [(2, .int 2), (0, .ref (a 0)), (1, .int v)] [.int (atv (m 6) 8 v), .int 2, .int (atv (m 4) 8 v), .int v, .ref (a 5)] (millW cI a m)
      refine g_imul hE dX0_widen_55 ?_
      refine g_iadd hE dX0_widen_56 ?_
      refine g_bipush hE dX0_widen_57 60 (by decide) ?_
      refine g_min hE (by decide) (by decide) (by decide) ml_X0_74 mi_st mi_in mi_co dX0_widen_59 (Nat.le_of_ble_eq_true rfl) ?_
      refine g_callSN hE (c_X4_put cI cS (a 5) 8 (m 4) v (if 60 < ((atv (m 4) 8 v) + (2 * (atv (m 6) 8 v))) then 60 else ((atv (m 4) 8 v) + (2 * (atv (m 6) 8 v)))) (by decide)) mk_X4_put st_X4_put nl_X0_53 dX0_widen_62 (As := [.ref (a 5), .int v, .int (if 60 < ((atv (m 4) 8 v) + (2 * (atv (m 6) 8 v))) then 60 else ((atv (m 4) 8 v) + (2 * (atv (m 6) 8 v))))]) (rest := []) rfl rfl (by decide) (by decide) (Nat.le_of_ble_eq_true rfl) (by decide) (by decide) [5] rfl (by decide) (fun u => Nat.le_of_ble_eq_true rfl) (ws' := fun u => millW cI a (pA m 4 u)) (fun u => rfl) (fun u hu => ?_)
      obtain ⟨f_11, rfl⟩ : ∃ z, z = u := ⟨_, rfl⟩
      have h12 : f_11 = putv (m 4) 8 v (if 60 < ((atv (m 4) 8 v) + (2 * (atv (m 6) 8 v))) then 60 else ((atv (m 4) 8 v) + (2 * (atv (m 6) 8 v)))) := hu
      have h13 : f_11 = (putv (m 4) 8 v (if 60 < ((atv (m 4) 8 v) + (2 * (atv (m 6) 8 v))) then 60 else ((atv (m 4) 8 v) + (2 * (atv (m 6) 8 v))))) := h12
      subst h13
      show Go E Q 3 0 0 65 [(2, .int 2), (0, .ref (a 0)), (1, .int v)] [] (millW cI a (pA m 4 (putv (m 4) 8 v (if 60 < ((atv (m 4) 8 v) + (2 * (atv (m 6) 8 v))) then 60 else ((atv (m 4) 8 v) + (2 * (atv (m 6) 8 v)))))))
      refine g_world (millW cI a (widS m v)) (congrArg (millW cI a) (show (pA m 4 (putv (m 4) 8 v (if 60 < ((atv (m 4) 8 v) + (2 * (atv (m 6) 8 v))) then 60 else ((atv (m 4) 8 v) + (2 * (atv (m 6) 8 v)))))) = widS m v from by unfold widS; first | rw [tm1 (k := atv (m 3) 8 v) (by assumption)] | rw [tm0 (k := atv (m 3) 8 v) (by assumption)] | rw [tm2 (k := atv (m 3) 8 v) (by assumption) (by assumption)])) ?_
      exact g_vret hE hQ dX0_widen_65 () rfl rfl trivial
    · refine g_iconst hE dX0_widen_27 1 (by decide) ?_
      refine g_goto hE 32 dX0_widen_28 (by decide) ?_
      refine g_istore_n hE dX0_widen_32 [(2, .int 1), (0, .ref (a 0)), (1, .int v)] rfl (by decide) rfl ?_
      refine g_aload_n hE dX0_widen_33 1 rfl ?_
      refine g_get hE fl_X0_24 dX0_widen_34 0 rfl rfl ?_
      refine g_iload_n hE dX0_widen_37 2 rfl ?_
      refine g_aload_n hE dX0_widen_38 1 rfl ?_
      refine g_get hE fl_X0_24 dX0_widen_39 0 rfl rfl ?_
      refine g_iload_n hE dX0_widen_42 2 rfl ?_
      refine g_callSN hE (c_X4_at cI cS (a 5) 8 (m 4) v (by decide)) mk_X4_at st_X4_at nl_X0_49 dX0_widen_43 (As := [.ref (a 5), .int v]) (rest := [.int v, .ref (a 5)]) rfl rfl (by decide) (by decide) (Nat.le_of_ble_eq_true rfl) (by decide) (by decide) [5] rfl (by decide) (fun u => Nat.le_of_ble_eq_true rfl) (ws' := fun u => millW cI a m) (fun u => rfl) (fun u hu => ?_)
      obtain ⟨r_14, rfl⟩ : ∃ z, z = u := ⟨_, rfl⟩
      have h15 : r_14 = (atv (m 4) 8 v) := hu
      subst h15
      show Go E Q 3 0 0 46 [(2, .int 1), (0, .ref (a 0)), (1, .int v)] [.int (atv (m 4) 8 v), .int v, .ref (a 5)] (millW cI a m)
      refine g_iload_n hE dX0_widen_46 0 rfl ?_
      refine g_aload_n hE dX0_widen_47 1 rfl ?_
      refine g_get hE fl_X0_30 dX0_widen_48 0 rfl rfl ?_
      refine g_iload_n hE dX0_widen_51 2 rfl ?_
      refine g_callSN hE (c_X4_at cI cS (a 7) 8 (m 6) v (by decide)) mk_X4_at st_X4_at nl_X0_49 dX0_widen_52 (As := [.ref (a 7), .int v]) (rest := [.int 1, .int (atv (m 4) 8 v), .int v, .ref (a 5)]) rfl rfl (by decide) (by decide) (Nat.le_of_ble_eq_true rfl) (by decide) (by decide) [7] rfl (by decide) (fun u => Nat.le_of_ble_eq_true rfl) (ws' := fun u => millW cI a m) (fun u => rfl) (fun u hu => ?_)
      obtain ⟨r_16, rfl⟩ : ∃ z, z = u := ⟨_, rfl⟩
      have h17 : r_16 = (atv (m 6) 8 v) := hu
      subst h17
      show Go E Q 3 0 0 55 [(2, .int 1), (0, .ref (a 0)), (1, .int v)] [.int (atv (m 6) 8 v), .int 1, .int (atv (m 4) 8 v), .int v, .ref (a 5)] (millW cI a m)
      refine g_imul hE dX0_widen_55 ?_
      refine g_iadd hE dX0_widen_56 ?_
      refine g_bipush hE dX0_widen_57 60 (by decide) ?_
      refine g_min hE (by decide) (by decide) (by decide) ml_X0_74 mi_st mi_in mi_co dX0_widen_59 (Nat.le_of_ble_eq_true rfl) ?_
      refine g_callSN hE (c_X4_put cI cS (a 5) 8 (m 4) v (if 60 < ((atv (m 4) 8 v) + (1 * (atv (m 6) 8 v))) then 60 else ((atv (m 4) 8 v) + (1 * (atv (m 6) 8 v)))) (by decide)) mk_X4_put st_X4_put nl_X0_53 dX0_widen_62 (As := [.ref (a 5), .int v, .int (if 60 < ((atv (m 4) 8 v) + (1 * (atv (m 6) 8 v))) then 60 else ((atv (m 4) 8 v) + (1 * (atv (m 6) 8 v))))]) (rest := []) rfl rfl (by decide) (by decide) (Nat.le_of_ble_eq_true rfl) (by decide) (by decide) [5] rfl (by decide) (fun u => Nat.le_of_ble_eq_true rfl) (ws' := fun u => millW cI a (pA m 4 u)) (fun u => rfl) (fun u hu => ?_)
      obtain ⟨f_18, rfl⟩ : ∃ z, z = u := ⟨_, rfl⟩
      have h19 : f_18 = putv (m 4) 8 v (if 60 < ((atv (m 4) 8 v) + (1 * (atv (m 6) 8 v))) then 60 else ((atv (m 4) 8 v) + (1 * (atv (m 6) 8 v)))) := hu
      have h20 : f_18 = (putv (m 4) 8 v (if 60 < ((atv (m 4) 8 v) + (1 * (atv (m 6) 8 v))) then 60 else ((atv (m 4) 8 v) + (1 * (atv (m 6) 8 v))))) := h19
      subst h20
      show Go E Q 3 0 0 65 [(2, .int 1), (0, .ref (a 0)), (1, .int v)] [] (millW cI a (pA m 4 (putv (m 4) 8 v (if 60 < ((atv (m 4) 8 v) + (1 * (atv (m 6) 8 v))) then 60 else ((atv (m 4) 8 v) + (1 * (atv (m 6) 8 v)))))))
      refine g_world (millW cI a (widS m v)) (congrArg (millW cI a) (show (pA m 4 (putv (m 4) 8 v (if 60 < ((atv (m 4) 8 v) + (1 * (atv (m 6) 8 v))) then 60 else ((atv (m 4) 8 v) + (1 * (atv (m 6) 8 v)))))) = widS m v from by unfold widS; first | rw [tm1 (k := atv (m 3) 8 v) (by assumption)] | rw [tm0 (k := atv (m 3) 8 v) (by assumption)] | rw [tm2 (k := atv (m 3) 8 v) (by assumption) (by assumption)])) ?_
      exact g_vret hE hQ dX0_widen_65 () rfl rfl trivial
  · refine g_iconst hE dX0_widen_12 0 (by decide) ?_
    refine g_goto hE 32 dX0_widen_13 (by decide) ?_
    refine g_istore_n hE dX0_widen_32 [(2, .int 0), (0, .ref (a 0)), (1, .int v)] rfl (by decide) rfl ?_
    refine g_aload_n hE dX0_widen_33 1 rfl ?_
    refine g_get hE fl_X0_24 dX0_widen_34 0 rfl rfl ?_
    refine g_iload_n hE dX0_widen_37 2 rfl ?_
    refine g_aload_n hE dX0_widen_38 1 rfl ?_
    refine g_get hE fl_X0_24 dX0_widen_39 0 rfl rfl ?_
    refine g_iload_n hE dX0_widen_42 2 rfl ?_
    refine g_callSN hE (c_X4_at cI cS (a 5) 8 (m 4) v (by decide)) mk_X4_at st_X4_at nl_X0_49 dX0_widen_43 (As := [.ref (a 5), .int v]) (rest := [.int v, .ref (a 5)]) rfl rfl (by decide) (by decide) (Nat.le_of_ble_eq_true rfl) (by decide) (by decide) [5] rfl (by decide) (fun u => Nat.le_of_ble_eq_true rfl) (ws' := fun u => millW cI a m) (fun u => rfl) (fun u hu => ?_)
    obtain ⟨r_21, rfl⟩ : ∃ z, z = u := ⟨_, rfl⟩
    have h22 : r_21 = (atv (m 4) 8 v) := hu
    subst h22
    show Go E Q 3 0 0 46 [(2, .int 0), (0, .ref (a 0)), (1, .int v)] [.int (atv (m 4) 8 v), .int v, .ref (a 5)] (millW cI a m)
    refine g_iload_n hE dX0_widen_46 0 rfl ?_
    refine g_aload_n hE dX0_widen_47 1 rfl ?_
    refine g_get hE fl_X0_30 dX0_widen_48 0 rfl rfl ?_
    refine g_iload_n hE dX0_widen_51 2 rfl ?_
    refine g_callSN hE (c_X4_at cI cS (a 7) 8 (m 6) v (by decide)) mk_X4_at st_X4_at nl_X0_49 dX0_widen_52 (As := [.ref (a 7), .int v]) (rest := [.int 0, .int (atv (m 4) 8 v), .int v, .ref (a 5)]) rfl rfl (by decide) (by decide) (Nat.le_of_ble_eq_true rfl) (by decide) (by decide) [7] rfl (by decide) (fun u => Nat.le_of_ble_eq_true rfl) (ws' := fun u => millW cI a m) (fun u => rfl) (fun u hu => ?_)
    obtain ⟨r_23, rfl⟩ : ∃ z, z = u := ⟨_, rfl⟩
    have h24 : r_23 = (atv (m 6) 8 v) := hu
    subst h24
    show Go E Q 3 0 0 55 [(2, .int 0), (0, .ref (a 0)), (1, .int v)] [.int (atv (m 6) 8 v), .int 0, .int (atv (m 4) 8 v), .int v, .ref (a 5)] (millW cI a m)
    refine g_imul hE dX0_widen_55 ?_
    refine g_iadd hE dX0_widen_56 ?_
    refine g_bipush hE dX0_widen_57 60 (by decide) ?_
    refine g_min hE (by decide) (by decide) (by decide) ml_X0_74 mi_st mi_in mi_co dX0_widen_59 (Nat.le_of_ble_eq_true rfl) ?_
    refine g_callSN hE (c_X4_put cI cS (a 5) 8 (m 4) v (if 60 < ((atv (m 4) 8 v) + (0 * (atv (m 6) 8 v))) then 60 else ((atv (m 4) 8 v) + (0 * (atv (m 6) 8 v)))) (by decide)) mk_X4_put st_X4_put nl_X0_53 dX0_widen_62 (As := [.ref (a 5), .int v, .int (if 60 < ((atv (m 4) 8 v) + (0 * (atv (m 6) 8 v))) then 60 else ((atv (m 4) 8 v) + (0 * (atv (m 6) 8 v))))]) (rest := []) rfl rfl (by decide) (by decide) (Nat.le_of_ble_eq_true rfl) (by decide) (by decide) [5] rfl (by decide) (fun u => Nat.le_of_ble_eq_true rfl) (ws' := fun u => millW cI a (pA m 4 u)) (fun u => rfl) (fun u hu => ?_)
    obtain ⟨f_25, rfl⟩ : ∃ z, z = u := ⟨_, rfl⟩
    have h26 : f_25 = putv (m 4) 8 v (if 60 < ((atv (m 4) 8 v) + (0 * (atv (m 6) 8 v))) then 60 else ((atv (m 4) 8 v) + (0 * (atv (m 6) 8 v)))) := hu
    have h27 : f_25 = (putv (m 4) 8 v (if 60 < ((atv (m 4) 8 v) + (0 * (atv (m 6) 8 v))) then 60 else ((atv (m 4) 8 v) + (0 * (atv (m 6) 8 v))))) := h26
    subst h27
    show Go E Q 3 0 0 65 [(2, .int 0), (0, .ref (a 0)), (1, .int v)] [] (millW cI a (pA m 4 (putv (m 4) 8 v (if 60 < ((atv (m 4) 8 v) + (0 * (atv (m 6) 8 v))) then 60 else ((atv (m 4) 8 v) + (0 * (atv (m 6) 8 v)))))))
    refine g_world (millW cI a (widS m v)) (congrArg (millW cI a) (show (pA m 4 (putv (m 4) 8 v (if 60 < ((atv (m 4) 8 v) + (0 * (atv (m 6) 8 v))) then 60 else ((atv (m 4) 8 v) + (0 * (atv (m 6) 8 v)))))) = widS m v from by unfold widS; first | rw [tm1 (k := atv (m 3) 8 v) (by assumption)] | rw [tm0 (k := atv (m 3) 8 v) (by assumption)] | rw [tm2 (k := atv (m 3) 8 v) (by assumption) (by assumption)])) ?_
    exact g_vret hE hQ dX0_widen_65 () rfl rfl trivial
end
section
/-! the mill: a shaking -/
def shS (m : Nat → Nat → Int32) (n : Nat) (row : Nat → Int32) : Nat → (Nat → Nat → Int32) × Nat × Int32
  | 0 => (m, ldS m n, 0)
  | k + 1 => (if fallS (shS m n row k).1 n (row k) (shS m n row k).2.1 = 0 then (shS m n row k).1 else widS (shS m n row k).1 (row k), fallS (shS m n row k).1 n (row k) (shS m n row k).2.1, (shS m n row k).2.2 + wS m n (nd (shS m n row k).2.1 (fallS (shS m n row k).1 n (row k) (shS m n row k).2.1)))
def shkS (q : Nat → Nat → Int32) : Nat → Nat → Int32 := pA q 9 (upd (q 9) 3 (if 1000000 < (q 9 3 + 1) then 1000000 else (q 9 3 + 1)))
def shM (m : Nat → Nat → Int32) (n : Nat) (row : Nat → Int32) (l : Nat) : Nat → Nat → Int32 := shkS (shS m n row l).1
def shV (m : Nat → Nat → Int32) (n : Nat) (row : Nat → Int32) (l : Nat) : Int32 := (shS m n row l).2.2 + wS m n (shS m n row l).2.1
theorem shS_lt {m : Nat → Nat → Int32} {n : Nat} {row : Nat → Int32} (hn : n ≤ 6) : ∀ k, (shS m n row k).2.1 < 64
  | 0 => bs_lt64 _ hn
  | k + 1 => fallS_lt hn (shS_lt hn k)
/-- only meshes change -/
theorem shS_off {m : Nat → Nat → Int32} {n : Nat} {row : Nat → Int32} {j : Nat} (hj : Nat.beq j 4 = false) : ∀ k, (shS m n row k).1 j = m j
  | 0 => rfl
  | k + 1 => by
    rw [shS]
    split
    · exact shS_off hj k
    · show pA _ 4 _ j = m j
      unfold pA
      rw [hj]
      exact shS_off hj k
theorem shS_keep {m : Nat → Nat → Int32} {n : Nat} {row : Nat → Int32} (k : Nat) : (shS m n row k).1 1 = m 1 ∧ (shS m n row k).1 2 = m 2 ∧ (shS m n row k).1 7 = m 7 ∧ (shS m n row k).1 9 = m 9 := ⟨shS_off rfl k, shS_off rfl k, shS_off rfl k, shS_off rfl k⟩
theorem shS_mw {m : Nat → Nat → Int32} {n sv pl : Nat} {row : Nat → Int32} (h : MW m n sv pl) (k : Nat) : MW (shS m n row k).1 n sv pl := by
  unfold MW
  rw [(shS_keep k).2.2.2]
  exact h
theorem sh1y {m mm : Nat → Nat → Int32} {n : Nat} {row : Nat → Int32} {k : Nat} {r : Int32} (hmm : mm = (shS m n row k).1) (hr : r = row k) (h : ¬ nI (fallS mm n r (shS m n row k).2.1) = 0) : widS mm r = (shS m n row (k + 1)).1 := by
  subst hmm; subst hr
  rw [shS, if_neg]
  intro q
  exact h (by rw [q]; rfl)
theorem sh1n {m mm : Nat → Nat → Int32} {n : Nat} {row : Nat → Int32} {k : Nat} {r : Int32} (hn : n ≤ 6) (hmm : mm = (shS m n row k).1) (hr : r = row k) (h : nI (fallS mm n r (shS m n row k).2.1) = 0) : mm = (shS m n row (k + 1)).1 := by
  subst hmm; subst hr
  rw [shS, if_pos]
  have h1 := fallS_lt (m := (shS m n row k).1) (s := row k) hn (shS_lt (m := m) (row := row) hn k)
  exact (nI_eq (b := 0) (by omega) (by decide)).mp h
theorem sh2 {m mm : Nat → Nat → Int32} {n : Nat} {row : Nat → Int32} {k : Nat} {r : Int32} (hmm : mm = (shS m n row k).1) (hr : r = row k) : nI (fallS mm n r (shS m n row k).2.1) = nI (shS m n row (k + 1)).2.1 := by
  subst hmm; subst hr; rfl
theorem sh3 {m mm : Nat → Nat → Int32} {n : Nat} {row : Nat → Int32} {k : Nat} {r y : Int32} (hmm : mm = (shS m n row k).1) (h1 : mm 1 = m 1) (h2 : mm 2 = m 2) (hr : r = row k) (hy : y = (shS m n row k).2.2) : y + wS mm n (nd (shS m n row k).2.1 (fallS mm n r (shS m n row k).2.1)) = (shS m n row (k + 1)).2.2 := by
  have e : ∀ s, wS mm n s = wS m n s := fun s => by unfold wS; rw [h1, h2]
  rw [e, hy]
  subst hmm; subst hr; rfl
set_option maxHeartbeats 4000000 in
set_option maxRecDepth 100000 in
theorem c_X0_shakeThrough (cI cS : ClassId) (a : Nat → Nat) (m : Nat → Nat → Int32) {n sv pl : Nat} (hM : MW m n sv pl) (l : Nat) (hl : l ≤ 6) : CT cI cS yX0_shakeThrough cX0_shakeThrough 8 (some .int) 4 [.ref (a 0), .ref (a 8), .int (nI l)] (millW cI a m) 0 0 (fun u : Int32 => u = shV m n (m 7) l) (fun u => some (.int u)) (fun u => (millW cI a (shM m n (m 7) l))) := by
  refine ct_intro (by decide) (Nat.le_of_ble_eq_true rfl) (fun E Q hE hQ hI => ?_)
  have hE : CxOk E cI cS RX0 cX0_shakeThrough 8 (some .int) 4 0 0 := hE
  show Go E Q 8 0 0 0 [(0, .ref (a 0)), (1, .ref (a 8)), (2, .int (nI l))] [] (millW cI a m)
  have hn := hM.1
  have hn6 := hM.2.1
  have hsv := hM.2.2.1
  have hsv8 := hM.2.2.2.1
  have hpl := hM.2.2.2.2.1
  have hpl6 := hM.2.2.2.2.2
  refine g_aload_n hE dX0_shakeThrough_0 0 rfl ?_
  refine g_callV hE (c_X0_load cI cS a m (by first | assumption | exact mw_of (by assumption))) mk_X0_load mv_X0_load ml_X0_94 dX0_shakeThrough_1 (As := []) (rest := []) rfl rfl 0 rfl (show vwCl[0]? = some (RX0, TX0, 13) from rfl) (by decide) (by decide) (Nat.le_of_ble_eq_true rfl) (by decide) (by decide) [0, 1, 2, 3, 4, 5, 6, 7, 8, 9] rfl (by decide) (fun u => Nat.le_of_ble_eq_true rfl) (ws' := fun u => millW cI a m) (fun u => rfl) (fun u hu => ?_)
  obtain ⟨r_1, rfl⟩ : ∃ z, z = u := ⟨_, rfl⟩
  have h2 : r_1 = (nI (ldS m n)) := hu
  subst h2
  show Go E Q 8 0 0 4 [(0, .ref (a 0)), (1, .ref (a 8)), (2, .int (nI l))] [.int (nI (ldS m n))] (millW cI a m)
  refine g_istore_n hE dX0_shakeThrough_4 [(3, .int (nI (ldS m n))), (0, .ref (a 0)), (1, .ref (a 8)), (2, .int (nI l))] rfl (by decide) rfl ?_
  refine g_iconst hE dX0_shakeThrough_5 0 (by decide) ?_
  refine g_istore hE dX0_shakeThrough_6 [(4, .int 0), (3, .int (nI (ldS m n))), (0, .ref (a 0)), (1, .ref (a 8)), (2, .int (nI l))] (by decide) rfl ?_
  refine g_iconst hE dX0_shakeThrough_8 0 (by decide) ?_
  refine g_istore hE dX0_shakeThrough_9 [(5, .int 0), (4, .int 0), (3, .int (nI (ldS m n))), (0, .ref (a 0)), (1, .ref (a 8)), (2, .int (nI l))] (by decide) rfl ?_
  have L11 : ∀ (n_11 : Nat) (k : Nat) (mm : Nat → Nat → Int32) (z : Int32) (y : Int32), (k ≤ l) → (mm = (shS m n (m 7) k).1) → (z = nI (shS m n (m 7) k).2.1) → (y = (shS m n (m 7) k).2.2) → (l - k < n_11) → Go E Q 8 0 0 11 [(0, .ref (a 0)), (1, .ref (a 8)), (2, .int (nI l)), (3, .int z), (4, .int y), (5, .int (nI k))] [] (millW cI a mm) := by
    intro n_11
    induction n_11 with
    | zero => intro k mm z y hk hmm hz hy hm_11; exact absurd hm_11 (Nat.not_lt_zero _)
    | succ n_11 ih_11 =>
      intro k mm z y hk hmm hz hy hm_11
      have hMM : MW mm n sv pl := by rw [hmm]; exact shS_mw hM k
      have hcm : (shS m n (m 7) k).2.1 < 64 := shS_lt hn6 k
      have hf1 : mm 1 = m 1 := by rw [hmm]; exact (shS_keep k).1
      have hf2 : mm 2 = m 2 := by rw [hmm]; exact (shS_keep k).2.1
      have hf7 : mm 7 = m 7 := by rw [hmm]; exact (shS_keep k).2.2.1
      refine g_iload hE dX0_shakeThrough_11 5 rfl ?_
      refine g_iload_n hE dX0_shakeThrough_13 2 rfl ?_
      refine g_icmp_ge hE 69 dX0_shakeThrough_14 (by decide) (fun c3 => ?_) (fun c3 => ?_)
      · have kc3 := nat_le_t (show (nI l) = nI l from rfl) (show (nI k) = nI k from rfl) (by omega) (by omega) c3
        refine g_aload_n hE dX0_shakeThrough_69 0 rfl ?_
        refine g_aload_n hE dX0_shakeThrough_70 0 rfl ?_
        refine g_get hE fl_X0_71 dX0_shakeThrough_71 0 rfl rfl ?_
        refine g_iconst hE dX0_shakeThrough_74 1 (by decide) ?_
        refine g_iadd hE dX0_shakeThrough_75 ?_
        refine g_ldc hE dX0_shakeThrough_76 ck_X0_108 ?_
        refine g_min hE (by decide) (by decide) (by decide) ml_X0_74 mi_st mi_in mi_co dX0_shakeThrough_78 (Nat.le_of_ble_eq_true rfl) ?_
        refine g_put hE fl_X0_71 fp_0_3 dX0_shakeThrough_81 0 rfl rfl rfl (Nat.le_of_ble_eq_true rfl) (millW cI a (pA mm 9 (upd (mm 9) 3 (if 1000000 < ((mm 9 3) + 1) then 1000000 else ((mm 9 3) + 1))))) rfl ?_
        refine g_iload hE dX0_shakeThrough_84 4 rfl ?_
        refine g_aload_n hE dX0_shakeThrough_86 0 rfl ?_
        refine g_iload_n hE dX0_shakeThrough_87 3 rfl ?_
        refine g_callV hE (c_X0_worth cI cS a (pA mm 9 (upd (mm 9) 3 (if 1000000 < ((mm 9 3) + 1) then 1000000 else ((mm 9 3) + 1)))) (by first | assumption | exact mw_of (by assumption)) z ((shS m n (m 7) k).2.1) (show z = nI ((shS m n (m 7) k).2.1) from hz) (by first | assumption | exact bs_lt64 _ (by assumption) | exact fallS_lt (by assumption) (by assumption) | exact nd_lt (by assumption) (by assumption) | exact nd_lt (by assumption) (fallS_lt (by assumption) (by assumption)) | exact nd_lt (by assumption) (bs_lt64 _ (by assumption)) | decide)) mk_X0_worth mv_X0_worth ml_X0_101 dX0_shakeThrough_88 (As := [.int z]) (rest := [.int y]) rfl rfl 0 rfl (show vwCl[0]? = some (RX0, TX0, 13) from rfl) (by decide) (by decide) (Nat.le_of_ble_eq_true rfl) (by decide) (by decide) [0, 1, 2, 3, 4, 5, 6, 7, 8, 9] rfl (by decide) (fun u => Nat.le_of_ble_eq_true rfl) (ws' := fun u => millW cI a (pA mm 9 (upd (mm 9) 3 (if 1000000 < ((mm 9 3) + 1) then 1000000 else ((mm 9 3) + 1))))) (fun u => rfl) (fun u hu => ?_)
        obtain ⟨r_4, rfl⟩ : ∃ z, z = u := ⟨_, rfl⟩
        have h5 : r_4 = (wS mm n ((shS m n (m 7) k).2.1)) := hu
        subst h5
        show Go E Q 8 0 0 91 [(0, .ref (a 0)), (1, .ref (a 8)), (2, .int (nI l)), (3, .int z), (4, .int y), (5, .int (nI k))] [.int (wS mm n ((shS m n (m 7) k).2.1)), .int y] (millW cI a (pA mm 9 (upd (mm 9) 3 (if 1000000 < ((mm 9 3) + 1) then 1000000 else ((mm 9 3) + 1)))))
        refine g_iadd hE dX0_shakeThrough_91 ?_
        refine g_world (millW cI a (shM m n (m 7) l)) (by rw [shM, ← (show k = l by omega), ← hmm]; rfl) ?_
        exact g_iret hE hQ dX0_shakeThrough_92 rfl (y + (wS mm n ((shS m n (m 7) k).2.1))) rfl rfl (by rw [hy, show l = k by omega, shV, wS, hf1, hf2]; rfl)
      · have kc3 := nat_le_f (show (nI l) = nI l from rfl) (show (nI k) = nI k from rfl) (by omega) (by omega) c3
        refine g_aload_n hE dX0_shakeThrough_17 1 rfl ?_
        refine g_iload hE dX0_shakeThrough_18 5 rfl ?_
        refine g_callSN hE (c_X4_at cI cS (a 8) 6 (mm 7) (nI k) (by decide)) mk_X4_at st_X4_at nl_X0_49 dX0_shakeThrough_20 (As := [.ref (a 8), .int (nI k)]) (rest := []) rfl rfl (by decide) (by decide) (Nat.le_of_ble_eq_true rfl) (by decide) (by decide) [8] rfl (by decide) (fun u => Nat.le_of_ble_eq_true rfl) (ws' := fun u => millW cI a mm) (fun u => rfl) (fun u hu => ?_)
        obtain ⟨r_6, rfl⟩ : ∃ z, z = u := ⟨_, rfl⟩
        have h7 : r_6 = ((mm 7) k) := hu.trans (by rw [show (nI k) = nI k from rfl]; exact atv_n (by omega) (by decide))
        subst h7
        show Go E Q 8 0 0 23 [(0, .ref (a 0)), (1, .ref (a 8)), (2, .int (nI l)), (3, .int z), (4, .int y), (5, .int (nI k))] [.int ((mm 7) k)] (millW cI a mm)
        refine g_istore hE dX0_shakeThrough_23 [(6, .int ((mm 7) k)), (0, .ref (a 0)), (1, .ref (a 8)), (2, .int (nI l)), (3, .int z), (4, .int y), (5, .int (nI k))] (by decide) rfl ?_
        refine g_aload_n hE dX0_shakeThrough_25 1 rfl ?_
        refine g_iload hE dX0_shakeThrough_26 0 rfl ?_
        refine g_iload_n hE dX0_shakeThrough_28 4 rfl ?_
        refine g_callV hE (c_X0_falling cI cS a mm (by first | assumption | exact mw_of (by assumption)) ((mm 7) k) z ((shS m n (m 7) k).2.1) (show z = nI ((shS m n (m 7) k).2.1) from hz) (by first | assumption | exact bs_lt64 _ (by assumption) | exact fallS_lt (by assumption) (by assumption) | exact nd_lt (by assumption) (by assumption) | exact nd_lt (by assumption) (fallS_lt (by assumption) (by assumption)) | exact nd_lt (by assumption) (bs_lt64 _ (by assumption)) | decide)) mk_X0_falling mv_X0_falling ml_X0_98 dX0_shakeThrough_29 (As := [.int ((mm 7) k), .int z]) (rest := []) rfl rfl 0 rfl (show vwCl[0]? = some (RX0, TX0, 13) from rfl) (by decide) (by decide) (Nat.le_of_ble_eq_true rfl) (by decide) (by decide) [0, 1, 2, 3, 4, 5, 6, 7, 8, 9] rfl (by decide) (fun u => Nat.le_of_ble_eq_true rfl) (ws' := fun u => millW cI a mm) (fun u => rfl) (fun u hu => ?_)
        obtain ⟨r_8, rfl⟩ : ∃ z, z = u := ⟨_, rfl⟩
        have h9 : r_8 = (nI (fallS mm n ((mm 7) k) ((shS m n (m 7) k).2.1))) := hu
        subst h9
        show Go E Q 8 0 0 32 [(6, .int ((mm 7) k)), (0, .ref (a 0)), (1, .ref (a 8)), (2, .int (nI l)), (3, .int z), (4, .int y), (5, .int (nI k))] [.int (nI (fallS mm n ((mm 7) k) ((shS m n (m 7) k).2.1)))] (millW cI a mm)
        refine g_istore hE dX0_shakeThrough_32 [(7, .int (nI (fallS mm n ((mm 7) k) ((shS m n (m 7) k).2.1)))), (6, .int ((mm 7) k)), (0, .ref (a 0)), (1, .ref (a 8)), (2, .int (nI l)), (3, .int z), (4, .int y), (5, .int (nI k))] (by decide) rfl ?_
        refine g_iload hE dX0_shakeThrough_34 6 rfl ?_
        refine g_aload_n hE dX0_shakeThrough_36 2 rfl ?_
        refine g_iload_n hE dX0_shakeThrough_37 5 rfl ?_
        refine g_iload hE dX0_shakeThrough_38 0 rfl ?_
        refine g_iconst hE dX0_shakeThrough_40 (-1) (by decide) ?_
        refine g_ixor hE dX0_shakeThrough_41 ?_
        refine g_iand hE dX0_shakeThrough_42 ?_
        refine g_callV hE (c_X0_worth cI cS a mm (by first | assumption | exact mw_of (by assumption)) (z &&& ((nI (fallS mm n ((mm 7) k) ((shS m n (m 7) k).2.1))) ^^^ (-1))) (nd ((shS m n (m 7) k).2.1) (fallS mm n ((mm 7) k) ((shS m n (m 7) k).2.1))) (show (z &&& ((nI (fallS mm n ((mm 7) k) ((shS m n (m 7) k).2.1))) ^^^ (-1))) = nI (nd ((shS m n (m 7) k).2.1) (fallS mm n ((mm 7) k) ((shS m n (m 7) k).2.1))) from (nd_i (show z = nI ((shS m n (m 7) k).2.1) from hz) (show (nI (fallS mm n ((mm 7) k) ((shS m n (m 7) k).2.1))) = nI (fallS mm n ((mm 7) k) ((shS m n (m 7) k).2.1)) from rfl) (by first | assumption | exact bs_lt64 _ (by assumption) | exact fallS_lt (by assumption) (by assumption) | exact nd_lt (by assumption) (by assumption) | exact nd_lt (by assumption) (fallS_lt (by assumption) (by assumption)) | exact nd_lt (by assumption) (bs_lt64 _ (by assumption)) | decide) (by first | assumption | exact bs_lt64 _ (by assumption) | exact fallS_lt (by assumption) (by assumption) | exact nd_lt (by assumption) (by assumption) | exact nd_lt (by assumption) (fallS_lt (by assumption) (by assumption)) | exact nd_lt (by assumption) (bs_lt64 _ (by assumption)) | decide))) (by first | assumption | exact bs_lt64 _ (by assumption) | exact fallS_lt (by assumption) (by assumption) | exact nd_lt (by assumption) (by assumption) | exact nd_lt (by assumption) (fallS_lt (by assumption) (by assumption)) | exact nd_lt (by assumption) (bs_lt64 _ (by assumption)) | decide)) mk_X0_worth mv_X0_worth ml_X0_101 dX0_shakeThrough_43 (As := [.int (z &&& ((nI (fallS mm n ((mm 7) k) ((shS m n (m 7) k).2.1))) ^^^ (-1)))]) (rest := [.int y]) rfl rfl 0 rfl (show vwCl[0]? = some (RX0, TX0, 13) from rfl) (by decide) (by decide) (Nat.le_of_ble_eq_true rfl) (by decide) (by decide) [0, 1, 2, 3, 4, 5, 6, 7, 8, 9] rfl (by decide) (fun u => Nat.le_of_ble_eq_true rfl) (ws' := fun u => millW cI a mm) (fun u => rfl) (fun u hu => ?_)
        obtain ⟨r_10, rfl⟩ : ∃ z, z = u := ⟨_, rfl⟩
        have h11 : r_10 = (wS mm n (nd ((shS m n (m 7) k).2.1) (fallS mm n ((mm 7) k) ((shS m n (m 7) k).2.1)))) := hu
        subst h11
        show Go E Q 8 0 0 46 [(7, .int (nI (fallS mm n ((mm 7) k) ((shS m n (m 7) k).2.1)))), (6, .int ((mm 7) k)), (0, .ref (a 0)), (1, .ref (a 8)), (2, .int (nI l)), (3, .int z), (4, .int y), (5, .int (nI k))] [.int (wS mm n (nd ((shS m n (m 7) k).2.1) (fallS mm n ((mm 7) k) ((shS m n (m 7) k).2.1)))), .int y] (millW cI a mm)
        refine g_iadd hE dX0_shakeThrough_46 ?_
        refine g_istore hE dX0_shakeThrough_47 [(4, .int (y + (wS mm n (nd ((shS m n (m 7) k).2.1) (fallS mm n ((mm 7) k) ((shS m n (m 7) k).2.1)))))), (7, .int (nI (fallS mm n ((mm 7) k) ((shS m n (m 7) k).2.1)))), (6, .int ((mm 7) k)), (0, .ref (a 0)), (1, .ref (a 8)), (2, .int (nI l)), (3, .int z), (5, .int (nI k))] (by decide) rfl ?_
        refine g_iload hE dX0_shakeThrough_49 1 rfl ?_
        refine g_if_eq hE 60 dX0_shakeThrough_51 (by decide) (fun c12 => ?_) (fun c12 => ?_)
        · refine g_iload hE dX0_shakeThrough_60 1 rfl ?_
          refine g_istore_n hE dX0_shakeThrough_62 [(3, .int (nI (fallS mm n ((mm 7) k) ((shS m n (m 7) k).2.1)))), (4, .int (y + (wS mm n (nd ((shS m n (m 7) k).2.1) (fallS mm n ((mm 7) k) ((shS m n (m 7) k).2.1)))))), (7, .int (nI (fallS mm n ((mm 7) k) ((shS m n (m 7) k).2.1)))), (6, .int ((mm 7) k)), (0, .ref (a 0)), (1, .ref (a 8)), (2, .int (nI l)), (5, .int (nI k))] rfl (by decide) rfl ?_
          refine g_iinc hE dX0_shakeThrough_63 7 (nI (k + 1)) [(5, .int (nI (k + 1))), (3, .int (nI (fallS mm n ((mm 7) k) ((shS m n (m 7) k).2.1)))), (4, .int (y + (wS mm n (nd ((shS m n (m 7) k).2.1) (fallS mm n ((mm 7) k) ((shS m n (m 7) k).2.1)))))), (7, .int (nI (fallS mm n ((mm 7) k) ((shS m n (m 7) k).2.1)))), (6, .int ((mm 7) k)), (0, .ref (a 0)), (1, .ref (a 8)), (2, .int (nI l))] rfl (nI_1 _) (by decide) rfl ?_
          refine g_goto hE 11 dX0_shakeThrough_66 (by decide) ?_
          refine g_locals [5, 6, 7, 1, 2, 0] [(0, .ref (a 0)), (1, .ref (a 8)), (2, .int (nI l)), (3, .int (nI (fallS mm n ((mm 7) k) ((shS m n (m 7) k).2.1)))), (4, .int (y + (wS mm n (nd ((shS m n (m 7) k).2.1) (fallS mm n ((mm 7) k) ((shS m n (m 7) k).2.1)))))), (5, .int (nI (k + 1)))] rfl ?_
          exact ih_11 (k + 1) mm (nI (fallS mm n ((mm 7) k) ((shS m n (m 7) k).2.1))) (y + (wS mm n (nd ((shS m n (m 7) k).2.1) (fallS mm n ((mm 7) k) ((shS m n (m 7) k).2.1))))) (by first | assumption | omega) (by first | exact sh1y hmm (congrFun hf7 k) (by assumption) | exact sh1n hn6 hmm (congrFun hf7 k) (by assumption)) (sh2 hmm (congrFun hf7 k)) (sh3 hmm hf1 hf2 (congrFun hf7 k) hy) (by omega)
        · refine g_aload_n hE dX0_shakeThrough_54 3 rfl ?_
          refine g_iload hE dX0_shakeThrough_55 2 rfl ?_
          refine g_callV hE (c_X0_widen cI cS a mm (by first | assumption | exact mw_of (by assumption)) ((mm 7) k)) mk_X0_widen mv_X0_widen ml_X0_104 dX0_shakeThrough_57 (As := [.int ((mm 7) k)]) (rest := []) rfl rfl 0 rfl (show vwCl[0]? = some (RX0, TX0, 13) from rfl) (by decide) (by decide) (Nat.le_of_ble_eq_true rfl) (by decide) (by decide) [0, 1, 2, 3, 4, 5, 6, 7, 8, 9] rfl (by decide) (fun u => Nat.le_of_ble_eq_true rfl) (ws' := fun u => millW cI a (widS mm ((mm 7) k))) (fun u => rfl) (fun u hu => ?_)
          show Go E Q 8 0 0 60 [(4, .int (y + (wS mm n (nd ((shS m n (m 7) k).2.1) (fallS mm n ((mm 7) k) ((shS m n (m 7) k).2.1)))))), (7, .int (nI (fallS mm n ((mm 7) k) ((shS m n (m 7) k).2.1)))), (6, .int ((mm 7) k)), (0, .ref (a 0)), (1, .ref (a 8)), (2, .int (nI l)), (3, .int z), (5, .int (nI k))] [] (millW cI a (widS mm ((mm 7) k)))
          refine g_iload hE dX0_shakeThrough_60 1 rfl ?_
          refine g_istore_n hE dX0_shakeThrough_62 [(3, .int (nI (fallS mm n ((mm 7) k) ((shS m n (m 7) k).2.1)))), (4, .int (y + (wS mm n (nd ((shS m n (m 7) k).2.1) (fallS mm n ((mm 7) k) ((shS m n (m 7) k).2.1)))))), (7, .int (nI (fallS mm n ((mm 7) k) ((shS m n (m 7) k).2.1)))), (6, .int ((mm 7) k)), (0, .ref (a 0)), (1, .ref (a 8)), (2, .int (nI l)), (5, .int (nI k))] rfl (by decide) rfl ?_
          refine g_iinc hE dX0_shakeThrough_63 7 (nI (k + 1)) [(5, .int (nI (k + 1))), (3, .int (nI (fallS mm n ((mm 7) k) ((shS m n (m 7) k).2.1)))), (4, .int (y + (wS mm n (nd ((shS m n (m 7) k).2.1) (fallS mm n ((mm 7) k) ((shS m n (m 7) k).2.1)))))), (7, .int (nI (fallS mm n ((mm 7) k) ((shS m n (m 7) k).2.1)))), (6, .int ((mm 7) k)), (0, .ref (a 0)), (1, .ref (a 8)), (2, .int (nI l))] rfl (nI_1 _) (by decide) rfl ?_
          refine g_goto hE 11 dX0_shakeThrough_66 (by decide) ?_
          refine g_locals [5, 6, 7, 1, 2, 0] [(0, .ref (a 0)), (1, .ref (a 8)), (2, .int (nI l)), (3, .int (nI (fallS mm n ((mm 7) k) ((shS m n (m 7) k).2.1)))), (4, .int (y + (wS mm n (nd ((shS m n (m 7) k).2.1) (fallS mm n ((mm 7) k) ((shS m n (m 7) k).2.1)))))), (5, .int (nI (k + 1)))] rfl ?_
          exact ih_11 (k + 1) (widS mm ((mm 7) k)) (nI (fallS mm n ((mm 7) k) ((shS m n (m 7) k).2.1))) (y + (wS mm n (nd ((shS m n (m 7) k).2.1) (fallS mm n ((mm 7) k) ((shS m n (m 7) k).2.1))))) (by first | assumption | omega) (by first | exact sh1y hmm (congrFun hf7 k) (by assumption) | exact sh1n hn6 hmm (congrFun hf7 k) (by assumption)) (sh2 hmm (congrFun hf7 k)) (sh3 hmm hf1 hf2 (congrFun hf7 k) hy) (by omega)
  refine g_locals [3, 4, 5, 2, 1, 0] [(0, .ref (a 0)), (1, .ref (a 8)), (2, .int (nI l)), (3, .int (nI (ldS m n))), (4, .int 0), (5, .int 0)] rfl ?_
  exact L11 _ 0 m (nI (ldS m n)) 0 (Nat.zero_le _) rfl rfl rfl (Nat.lt_succ_self _)
set_option maxHeartbeats 4000000 in
set_option maxRecDepth 100000 in
theorem c_X0_shakeThrough_x (cI cS : ClassId) (a : Nat → Nat) (m : Nat → Nat → Int32) {n sv pl : Nat} (hM : MW m n sv pl) (q : Nat) (f : Nat → Int32) (l : Nat) (hl : l ≤ 4) : CT cI cS yX0_shakeThrough cX0_shakeThrough 8 (some .int) 4 [.ref (a 0), .ref q, .int (nI l)] (millW cI a m ++ ([(q, .inl (cI, 4, .inl f))])) 0 0 (fun u : Int32 => u = shV m n f l) (fun u => some (.int u)) (fun u => (millW cI a (shM m n f l) ++ ([(q, .inl (cI, 4, .inl f))]))) := by
  refine ct_intro (by decide) (Nat.le_of_ble_eq_true rfl) (fun E Q hE hQ hI => ?_)
  have hE : CxOk E cI cS RX0 cX0_shakeThrough 8 (some .int) 4 0 0 := hE
  show Go E Q 8 0 0 0 [(0, .ref (a 0)), (1, .ref q), (2, .int (nI l))] [] (millW cI a m ++ ([(q, .inl (cI, 4, .inl f))]))
  have hn := hM.1
  have hn6 := hM.2.1
  have hsv := hM.2.2.1
  have hsv8 := hM.2.2.2.1
  have hpl := hM.2.2.2.2.1
  have hpl6 := hM.2.2.2.2.2
  refine g_aload_n hE dX0_shakeThrough_0 0 rfl ?_
  refine g_callV hE (c_X0_load cI cS a m (by first | assumption | exact mw_of (by assumption))) mk_X0_load mv_X0_load ml_X0_94 dX0_shakeThrough_1 (As := []) (rest := []) rfl rfl 0 rfl (show vwCl[0]? = some (RX0, TX0, 13) from rfl) (by decide) (by decide) (Nat.le_of_ble_eq_true rfl) (by decide) (by decide) [0, 1, 2, 3, 4, 5, 6, 7, 8, 9] rfl (by decide) (fun u => Nat.le_of_ble_eq_true rfl) (ws' := fun u => millW cI a m ++ ([(q, .inl (cI, 4, .inl f))])) (fun u => rfl) (fun u hu => ?_)
  obtain ⟨r_1, rfl⟩ : ∃ z, z = u := ⟨_, rfl⟩
  have h2 : r_1 = (nI (ldS m n)) := hu
  subst h2
  show Go E Q 8 0 0 4 [(0, .ref (a 0)), (1, .ref q), (2, .int (nI l))] [.int (nI (ldS m n))] (millW cI a m ++ ([(q, .inl (cI, 4, .inl f))]))
  refine g_istore_n hE dX0_shakeThrough_4 [(3, .int (nI (ldS m n))), (0, .ref (a 0)), (1, .ref q), (2, .int (nI l))] rfl (by decide) rfl ?_
  refine g_iconst hE dX0_shakeThrough_5 0 (by decide) ?_
  refine g_istore hE dX0_shakeThrough_6 [(4, .int 0), (3, .int (nI (ldS m n))), (0, .ref (a 0)), (1, .ref q), (2, .int (nI l))] (by decide) rfl ?_
  refine g_iconst hE dX0_shakeThrough_8 0 (by decide) ?_
  refine g_istore hE dX0_shakeThrough_9 [(5, .int 0), (4, .int 0), (3, .int (nI (ldS m n))), (0, .ref (a 0)), (1, .ref q), (2, .int (nI l))] (by decide) rfl ?_
  have L11 : ∀ (n_11 : Nat) (k : Nat) (mm : Nat → Nat → Int32) (z : Int32) (y : Int32), (k ≤ l) → (mm = (shS m n f k).1) → (z = nI (shS m n f k).2.1) → (y = (shS m n f k).2.2) → (l - k < n_11) → Go E Q 8 0 0 11 [(0, .ref (a 0)), (1, .ref q), (2, .int (nI l)), (3, .int z), (4, .int y), (5, .int (nI k))] [] (millW cI a mm ++ ([(q, .inl (cI, 4, .inl f))])) := by
    intro n_11
    induction n_11 with
    | zero => intro k mm z y hk hmm hz hy hm_11; exact absurd hm_11 (Nat.not_lt_zero _)
    | succ n_11 ih_11 =>
      intro k mm z y hk hmm hz hy hm_11
      have hMM : MW mm n sv pl := by rw [hmm]; exact shS_mw hM k
      have hcm : (shS m n f k).2.1 < 64 := shS_lt hn6 k
      have hf1 : mm 1 = m 1 := by rw [hmm]; exact (shS_keep k).1
      have hf2 : mm 2 = m 2 := by rw [hmm]; exact (shS_keep k).2.1
      refine g_iload hE dX0_shakeThrough_11 5 rfl ?_
      refine g_iload_n hE dX0_shakeThrough_13 2 rfl ?_
      refine g_icmp_ge hE 69 dX0_shakeThrough_14 (by decide) (fun c3 => ?_) (fun c3 => ?_)
      · have kc3 := nat_le_t (show (nI l) = nI l from rfl) (show (nI k) = nI k from rfl) (by omega) (by omega) c3
        refine g_aload_n hE dX0_shakeThrough_69 0 rfl ?_
        refine g_aload_n hE dX0_shakeThrough_70 0 rfl ?_
        refine g_get hE fl_X0_71 dX0_shakeThrough_71 0 rfl rfl ?_
        refine g_iconst hE dX0_shakeThrough_74 1 (by decide) ?_
        refine g_iadd hE dX0_shakeThrough_75 ?_
        refine g_ldc hE dX0_shakeThrough_76 ck_X0_108 ?_
        refine g_min hE (by decide) (by decide) (by decide) ml_X0_74 mi_st mi_in mi_co dX0_shakeThrough_78 (Nat.le_of_ble_eq_true rfl) ?_
        refine g_put hE fl_X0_71 fp_0_3 dX0_shakeThrough_81 0 rfl rfl rfl (Nat.le_of_ble_eq_true rfl) (millW cI a (pA mm 9 (upd (mm 9) 3 (if 1000000 < ((mm 9 3) + 1) then 1000000 else ((mm 9 3) + 1)))) ++ ([(q, .inl (cI, 4, .inl f))])) rfl ?_
        refine g_iload hE dX0_shakeThrough_84 4 rfl ?_
        refine g_aload_n hE dX0_shakeThrough_86 0 rfl ?_
        refine g_iload_n hE dX0_shakeThrough_87 3 rfl ?_
        refine g_callV hE (c_X0_worth cI cS a (pA mm 9 (upd (mm 9) 3 (if 1000000 < ((mm 9 3) + 1) then 1000000 else ((mm 9 3) + 1)))) (by first | assumption | exact mw_of (by assumption)) z ((shS m n f k).2.1) (show z = nI ((shS m n f k).2.1) from hz) (by first | assumption | exact bs_lt64 _ (by assumption) | exact fallS_lt (by assumption) (by assumption) | exact nd_lt (by assumption) (by assumption) | exact nd_lt (by assumption) (fallS_lt (by assumption) (by assumption)) | exact nd_lt (by assumption) (bs_lt64 _ (by assumption)) | decide)) mk_X0_worth mv_X0_worth ml_X0_101 dX0_shakeThrough_88 (As := [.int z]) (rest := [.int y]) rfl rfl 0 rfl (show vwCl[0]? = some (RX0, TX0, 13) from rfl) (by decide) (by decide) (Nat.le_of_ble_eq_true rfl) (by decide) (by decide) [0, 1, 2, 3, 4, 5, 6, 7, 8, 9] rfl (by decide) (fun u => Nat.le_of_ble_eq_true rfl) (ws' := fun u => millW cI a (pA mm 9 (upd (mm 9) 3 (if 1000000 < ((mm 9 3) + 1) then 1000000 else ((mm 9 3) + 1)))) ++ ([(q, .inl (cI, 4, .inl f))])) (fun u => rfl) (fun u hu => ?_)
        obtain ⟨r_4, rfl⟩ : ∃ z, z = u := ⟨_, rfl⟩
        have h5 : r_4 = (wS mm n ((shS m n f k).2.1)) := hu
        subst h5
        show Go E Q 8 0 0 91 [(0, .ref (a 0)), (1, .ref q), (2, .int (nI l)), (3, .int z), (4, .int y), (5, .int (nI k))] [.int (wS mm n ((shS m n f k).2.1)), .int y] (millW cI a (pA mm 9 (upd (mm 9) 3 (if 1000000 < ((mm 9 3) + 1) then 1000000 else ((mm 9 3) + 1)))) ++ ([(q, .inl (cI, 4, .inl f))]))
        refine g_iadd hE dX0_shakeThrough_91 ?_
        refine g_world (millW cI a (shM m n f l) ++ ([(q, .inl (cI, 4, .inl f))])) (by rw [shM, ← (show k = l by omega), ← hmm]; rfl) ?_
        exact g_iret hE hQ dX0_shakeThrough_92 rfl (y + (wS mm n ((shS m n f k).2.1))) rfl rfl (by rw [hy, show l = k by omega, shV, wS, hf1, hf2]; rfl)
      · have kc3 := nat_le_f (show (nI l) = nI l from rfl) (show (nI k) = nI k from rfl) (by omega) (by omega) c3
        refine g_aload_n hE dX0_shakeThrough_17 1 rfl ?_
        refine g_iload hE dX0_shakeThrough_18 5 rfl ?_
        refine g_callSN hE (c_X4_at cI cS q 4 f (nI k) (by decide)) mk_X4_at st_X4_at nl_X0_49 dX0_shakeThrough_20 (As := [.ref q, .int (nI k)]) (rest := []) rfl rfl (by decide) (by decide) (Nat.le_of_ble_eq_true rfl) (by decide) (by decide) [10] rfl (by decide) (fun u => Nat.le_of_ble_eq_true rfl) (ws' := fun u => millW cI a mm ++ ([(q, .inl (cI, 4, .inl f))])) (fun u => rfl) (fun u hu => ?_)
        obtain ⟨r_6, rfl⟩ : ∃ z, z = u := ⟨_, rfl⟩
        have h7 : r_6 = (f k) := hu.trans (by rw [show (nI k) = nI k from rfl]; exact atv_n (by omega) (by decide))
        subst h7
        show Go E Q 8 0 0 23 [(0, .ref (a 0)), (1, .ref q), (2, .int (nI l)), (3, .int z), (4, .int y), (5, .int (nI k))] [.int (f k)] (millW cI a mm ++ ([(q, .inl (cI, 4, .inl f))]))
        refine g_istore hE dX0_shakeThrough_23 [(6, .int (f k)), (0, .ref (a 0)), (1, .ref q), (2, .int (nI l)), (3, .int z), (4, .int y), (5, .int (nI k))] (by decide) rfl ?_
        refine g_aload_n hE dX0_shakeThrough_25 1 rfl ?_
        refine g_iload hE dX0_shakeThrough_26 0 rfl ?_
        refine g_iload_n hE dX0_shakeThrough_28 4 rfl ?_
        refine g_callV hE (c_X0_falling cI cS a mm (by first | assumption | exact mw_of (by assumption)) (f k) z ((shS m n f k).2.1) (show z = nI ((shS m n f k).2.1) from hz) (by first | assumption | exact bs_lt64 _ (by assumption) | exact fallS_lt (by assumption) (by assumption) | exact nd_lt (by assumption) (by assumption) | exact nd_lt (by assumption) (fallS_lt (by assumption) (by assumption)) | exact nd_lt (by assumption) (bs_lt64 _ (by assumption)) | decide)) mk_X0_falling mv_X0_falling ml_X0_98 dX0_shakeThrough_29 (As := [.int (f k), .int z]) (rest := []) rfl rfl 0 rfl (show vwCl[0]? = some (RX0, TX0, 13) from rfl) (by decide) (by decide) (Nat.le_of_ble_eq_true rfl) (by decide) (by decide) [0, 1, 2, 3, 4, 5, 6, 7, 8, 9] rfl (by decide) (fun u => Nat.le_of_ble_eq_true rfl) (ws' := fun u => millW cI a mm ++ ([(q, .inl (cI, 4, .inl f))])) (fun u => rfl) (fun u hu => ?_)
        obtain ⟨r_8, rfl⟩ : ∃ z, z = u := ⟨_, rfl⟩
        have h9 : r_8 = (nI (fallS mm n (f k) ((shS m n f k).2.1))) := hu
        subst h9
        show Go E Q 8 0 0 32 [(6, .int (f k)), (0, .ref (a 0)), (1, .ref q), (2, .int (nI l)), (3, .int z), (4, .int y), (5, .int (nI k))] [.int (nI (fallS mm n (f k) ((shS m n f k).2.1)))] (millW cI a mm ++ ([(q, .inl (cI, 4, .inl f))]))
        refine g_istore hE dX0_shakeThrough_32 [(7, .int (nI (fallS mm n (f k) ((shS m n f k).2.1)))), (6, .int (f k)), (0, .ref (a 0)), (1, .ref q), (2, .int (nI l)), (3, .int z), (4, .int y), (5, .int (nI k))] (by decide) rfl ?_
        refine g_iload hE dX0_shakeThrough_34 6 rfl ?_
        refine g_aload_n hE dX0_shakeThrough_36 2 rfl ?_
        refine g_iload_n hE dX0_shakeThrough_37 5 rfl ?_
        refine g_iload hE dX0_shakeThrough_38 0 rfl ?_
        refine g_iconst hE dX0_shakeThrough_40 (-1) (by decide) ?_
        refine g_ixor hE dX0_shakeThrough_41 ?_
        refine g_iand hE dX0_shakeThrough_42 ?_
        refine g_callV hE (c_X0_worth cI cS a mm (by first | assumption | exact mw_of (by assumption)) (z &&& ((nI (fallS mm n (f k) ((shS m n f k).2.1))) ^^^ (-1))) (nd ((shS m n f k).2.1) (fallS mm n (f k) ((shS m n f k).2.1))) (show (z &&& ((nI (fallS mm n (f k) ((shS m n f k).2.1))) ^^^ (-1))) = nI (nd ((shS m n f k).2.1) (fallS mm n (f k) ((shS m n f k).2.1))) from (nd_i (show z = nI ((shS m n f k).2.1) from hz) (show (nI (fallS mm n (f k) ((shS m n f k).2.1))) = nI (fallS mm n (f k) ((shS m n f k).2.1)) from rfl) (by first | assumption | exact bs_lt64 _ (by assumption) | exact fallS_lt (by assumption) (by assumption) | exact nd_lt (by assumption) (by assumption) | exact nd_lt (by assumption) (fallS_lt (by assumption) (by assumption)) | exact nd_lt (by assumption) (bs_lt64 _ (by assumption)) | decide) (by first | assumption | exact bs_lt64 _ (by assumption) | exact fallS_lt (by assumption) (by assumption) | exact nd_lt (by assumption) (by assumption) | exact nd_lt (by assumption) (fallS_lt (by assumption) (by assumption)) | exact nd_lt (by assumption) (bs_lt64 _ (by assumption)) | decide))) (by first | assumption | exact bs_lt64 _ (by assumption) | exact fallS_lt (by assumption) (by assumption) | exact nd_lt (by assumption) (by assumption) | exact nd_lt (by assumption) (fallS_lt (by assumption) (by assumption)) | exact nd_lt (by assumption) (bs_lt64 _ (by assumption)) | decide)) mk_X0_worth mv_X0_worth ml_X0_101 dX0_shakeThrough_43 (As := [.int (z &&& ((nI (fallS mm n (f k) ((shS m n f k).2.1))) ^^^ (-1)))]) (rest := [.int y]) rfl rfl 0 rfl (show vwCl[0]? = some (RX0, TX0, 13) from rfl) (by decide) (by decide) (Nat.le_of_ble_eq_true rfl) (by decide) (by decide) [0, 1, 2, 3, 4, 5, 6, 7, 8, 9] rfl (by decide) (fun u => Nat.le_of_ble_eq_true rfl) (ws' := fun u => millW cI a mm ++ ([(q, .inl (cI, 4, .inl f))])) (fun u => rfl) (fun u hu => ?_)
        obtain ⟨r_10, rfl⟩ : ∃ z, z = u := ⟨_, rfl⟩
        have h11 : r_10 = (wS mm n (nd ((shS m n f k).2.1) (fallS mm n (f k) ((shS m n f k).2.1)))) := hu
        subst h11
        show Go E Q 8 0 0 46 [(7, .int (nI (fallS mm n (f k) ((shS m n f k).2.1)))), (6, .int (f k)), (0, .ref (a 0)), (1, .ref q), (2, .int (nI l)), (3, .int z), (4, .int y), (5, .int (nI k))] [.int (wS mm n (nd ((shS m n f k).2.1) (fallS mm n (f k) ((shS m n f k).2.1)))), .int y] (millW cI a mm ++ ([(q, .inl (cI, 4, .inl f))]))
        refine g_iadd hE dX0_shakeThrough_46 ?_
        refine g_istore hE dX0_shakeThrough_47 [(4, .int (y + (wS mm n (nd ((shS m n f k).2.1) (fallS mm n (f k) ((shS m n f k).2.1)))))), (7, .int (nI (fallS mm n (f k) ((shS m n f k).2.1)))), (6, .int (f k)), (0, .ref (a 0)), (1, .ref q), (2, .int (nI l)), (3, .int z), (5, .int (nI k))] (by decide) rfl ?_
        refine g_iload hE dX0_shakeThrough_49 1 rfl ?_
        refine g_if_eq hE 60 dX0_shakeThrough_51 (by decide) (fun c12 => ?_) (fun c12 => ?_)
        · refine g_iload hE dX0_shakeThrough_60 1 rfl ?_
          refine g_istore_n hE dX0_shakeThrough_62 [(3, .int (nI (fallS mm n (f k) ((shS m n f k).2.1)))), (4, .int (y + (wS mm n (nd ((shS m n f k).2.1) (fallS mm n (f k) ((shS m n f k).2.1)))))), (7, .int (nI (fallS mm n (f k) ((shS m n f k).2.1)))), (6, .int (f k)), (0, .ref (a 0)), (1, .ref q), (2, .int (nI l)), (5, .int (nI k))] rfl (by decide) rfl ?_
          refine g_iinc hE dX0_shakeThrough_63 7 (nI (k + 1)) [(5, .int (nI (k + 1))), (3, .int (nI (fallS mm n (f k) ((shS m n f k).2.1)))), (4, .int (y + (wS mm n (nd ((shS m n f k).2.1) (fallS mm n (f k) ((shS m n f k).2.1)))))), (7, .int (nI (fallS mm n (f k) ((shS m n f k).2.1)))), (6, .int (f k)), (0, .ref (a 0)), (1, .ref q), (2, .int (nI l))] rfl (nI_1 _) (by decide) rfl ?_
          refine g_goto hE 11 dX0_shakeThrough_66 (by decide) ?_
          refine g_locals [5, 6, 7, 1, 2, 0] [(0, .ref (a 0)), (1, .ref q), (2, .int (nI l)), (3, .int (nI (fallS mm n (f k) ((shS m n f k).2.1)))), (4, .int (y + (wS mm n (nd ((shS m n f k).2.1) (fallS mm n (f k) ((shS m n f k).2.1)))))), (5, .int (nI (k + 1)))] rfl ?_
          exact ih_11 (k + 1) mm (nI (fallS mm n (f k) ((shS m n f k).2.1))) (y + (wS mm n (nd ((shS m n f k).2.1) (fallS mm n (f k) ((shS m n f k).2.1))))) (by first | assumption | omega) (by first | exact sh1y hmm rfl (by assumption) | exact sh1n hn6 hmm rfl (by assumption)) (sh2 hmm rfl) (sh3 hmm hf1 hf2 rfl hy) (by omega)
        · refine g_aload_n hE dX0_shakeThrough_54 3 rfl ?_
          refine g_iload hE dX0_shakeThrough_55 2 rfl ?_
          refine g_callV hE (c_X0_widen cI cS a mm (by first | assumption | exact mw_of (by assumption)) (f k)) mk_X0_widen mv_X0_widen ml_X0_104 dX0_shakeThrough_57 (As := [.int (f k)]) (rest := []) rfl rfl 0 rfl (show vwCl[0]? = some (RX0, TX0, 13) from rfl) (by decide) (by decide) (Nat.le_of_ble_eq_true rfl) (by decide) (by decide) [0, 1, 2, 3, 4, 5, 6, 7, 8, 9] rfl (by decide) (fun u => Nat.le_of_ble_eq_true rfl) (ws' := fun u => millW cI a (widS mm (f k)) ++ ([(q, .inl (cI, 4, .inl f))])) (fun u => rfl) (fun u hu => ?_)
          show Go E Q 8 0 0 60 [(4, .int (y + (wS mm n (nd ((shS m n f k).2.1) (fallS mm n (f k) ((shS m n f k).2.1)))))), (7, .int (nI (fallS mm n (f k) ((shS m n f k).2.1)))), (6, .int (f k)), (0, .ref (a 0)), (1, .ref q), (2, .int (nI l)), (3, .int z), (5, .int (nI k))] [] (millW cI a (widS mm (f k)) ++ ([(q, .inl (cI, 4, .inl f))]))
          refine g_iload hE dX0_shakeThrough_60 1 rfl ?_
          refine g_istore_n hE dX0_shakeThrough_62 [(3, .int (nI (fallS mm n (f k) ((shS m n f k).2.1)))), (4, .int (y + (wS mm n (nd ((shS m n f k).2.1) (fallS mm n (f k) ((shS m n f k).2.1)))))), (7, .int (nI (fallS mm n (f k) ((shS m n f k).2.1)))), (6, .int (f k)), (0, .ref (a 0)), (1, .ref q), (2, .int (nI l)), (5, .int (nI k))] rfl (by decide) rfl ?_
          refine g_iinc hE dX0_shakeThrough_63 7 (nI (k + 1)) [(5, .int (nI (k + 1))), (3, .int (nI (fallS mm n (f k) ((shS m n f k).2.1)))), (4, .int (y + (wS mm n (nd ((shS m n f k).2.1) (fallS mm n (f k) ((shS m n f k).2.1)))))), (7, .int (nI (fallS mm n (f k) ((shS m n f k).2.1)))), (6, .int (f k)), (0, .ref (a 0)), (1, .ref q), (2, .int (nI l))] rfl (nI_1 _) (by decide) rfl ?_
          refine g_goto hE 11 dX0_shakeThrough_66 (by decide) ?_
          refine g_locals [5, 6, 7, 1, 2, 0] [(0, .ref (a 0)), (1, .ref q), (2, .int (nI l)), (3, .int (nI (fallS mm n (f k) ((shS m n f k).2.1)))), (4, .int (y + (wS mm n (nd ((shS m n f k).2.1) (fallS mm n (f k) ((shS m n f k).2.1)))))), (5, .int (nI (k + 1)))] rfl ?_
          exact ih_11 (k + 1) (widS mm (f k)) (nI (fallS mm n (f k) ((shS m n f k).2.1))) (y + (wS mm n (nd ((shS m n f k).2.1) (fallS mm n (f k) ((shS m n f k).2.1))))) (by first | assumption | omega) (by first | exact sh1y hmm rfl (by assumption) | exact sh1n hn6 hmm rfl (by assumption)) (sh2 hmm rfl) (sh3 hmm hf1 hf2 rfl hy) (by omega)
  refine g_locals [3, 4, 5, 2, 1, 0] [(0, .ref (a 0)), (1, .ref q), (2, .int (nI l)), (3, .int (nI (ldS m n))), (4, .int 0), (5, .int 0)] rfl ?_
  exact L11 _ 0 m (nI (ldS m n)) 0 (Nat.zero_le _) rfl rfl rfl (Nat.lt_succ_self _)
end
section
/-! the search's and the sheets' objects -/
def seS (T C : Nat → Int32) (li ap va le : Int32) : Nat → Nat → Int32 := fun g => cond (Nat.beq g 0) T (cond (Nat.beq g 1) C (fun j => cond (Nat.beq j 0) li (cond (Nat.beq j 1) ap (cond (Nat.beq j 2) va le))))
def shT (T : Nat → Int32) (ln le : Int32) : Nat → Nat → Int32 := fun g => cond (Nat.beq g 0) T (fun j => cond (Nat.beq j 0) ln le)
def bcS (s : Nat) : Nat := (if s.testBit 0 then 1 else 0) + (if s.testBit 1 then 1 else 0) + (if s.testBit 2 then 1 else 0) + (if s.testBit 3 then 1 else 0) + (if s.testBit 4 then 1 else 0) + (if s.testBit 5 then 1 else 0)
theorem and_64 : ∀ a, a < 64 → ∀ b, b < 64 → nI a &&& nI b = nI (a &&& b) ∧ a &&& b < 64 := by decide +kernel
theorem and_lt {a b : Nat} (ha : a < 64) (hb : b < 64) : a &&& b < 64 := (and_64 a ha b hb).2
theorem and_i {x y : Int32} {a b : Nat} (hx : x = nI a) (hy : y = nI b) (ha : a < 64) (hb : b < 64) : x &&& y = nI (a &&& b) := by subst hx; subst hy; exact (and_64 a ha b hb).1
theorem bcS_le : ∀ s, s < 64 → bcS s ≤ 6 := by decide +kernel
theorem mx_t {s a : Nat} (hs : s < 64) (ha : a < 64) (h : ¬ nI (bcS (s &&& a)) ≤ 1) : 1 < bcS (s &&& a) := by
  have := bcS_le _ (and_lt hs ha)
  have h2 : ¬ nI (bcS (s &&& a)) ≤ nI 1 := h
  rw [nI_leI (by omega) (by decide)] at h2
  omega
theorem mx_f {s a : Nat} (hs : s < 64) (ha : a < 64) (h : nI (bcS (s &&& a)) ≤ 1) : ¬ 1 < bcS (s &&& a) := by
  have := bcS_le _ (and_lt hs ha)
  have h2 : nI (bcS (s &&& a)) ≤ nI 1 := h
  rw [nI_leI (by omega) (by decide)] at h2
  omega
abbrev hasI (le i k : Int32) : Prop := 0 ≤ i ∧ i ≤ le ∧ 0 ≤ k ∧ k ≤ le - i
def refS (ln le l i k : Int32) : Int32 := if ln = -1 then -11 else if ln = l then (if hasI le i k then 0 else -13) else -12
def lnS (ln v : Int32) : Int32 := if ln = 0 then v.toInt8.toInt32 else if ln = 1 then v.toInt16.toInt32 else v
set_option maxHeartbeats 4000000 in
set_option maxRecDepth 100000 in
theorem c_J6_bitCount_0f7a4 (cI cS : ClassId) (z : Int32) (s : Nat) (hz : z = nI s) (hs : s < 64) : CT cI cS yJ6_bitCount_0f7a4 cJ6_bitCount_0f7a4 1 (some .int) 0 [.int z] (([] : va_W)) 0 0 (fun u : Int32 => u = nI (bcS s)) (fun u => some (.int u)) (fun u => (([] : va_W))) := by
  refine ct_intro (by decide) (Nat.le_of_ble_eq_true rfl) (fun E Q hE hQ hI => ?_)
  have hE : CxOk E cI cS RJ6 cJ6_bitCount_0f7a4 1 (some .int) 0 0 0 := hE
  show Go E Q 1 0 0 0 [(0, .int z)] [] (([] : va_W))
  refine g_iload_n hE dJ6_bitCount_0f7a4_0 0 rfl ?_
  refine g_iload_n hE dJ6_bitCount_0f7a4_1 0 rfl ?_
  refine g_iconst hE dJ6_bitCount_0f7a4_2 1 (by decide) ?_
  refine g_iushr hE dJ6_bitCount_0f7a4_3 ?_
  refine g_ldcw hE dJ6_bitCount_0f7a4_4 ck_J6_265 ?_
  refine g_iand hE dJ6_bitCount_0f7a4_7 ?_
  refine g_isub hE dJ6_bitCount_0f7a4_8 ?_
  refine g_istore_n hE dJ6_bitCount_0f7a4_9 [(0, .int (z - (((Int32.toUInt32 z >>> (Int32.toUInt32 1 &&& Int32.toUInt32 31)).toInt32) &&& 1431655765)))] rfl (by decide) rfl ?_
  refine g_iload_n hE dJ6_bitCount_0f7a4_10 0 rfl ?_
  refine g_ldcw hE dJ6_bitCount_0f7a4_11 ck_J6_266 ?_
  refine g_iand hE dJ6_bitCount_0f7a4_14 ?_
  refine g_iload_n hE dJ6_bitCount_0f7a4_15 0 rfl ?_
  refine g_iconst hE dJ6_bitCount_0f7a4_16 2 (by decide) ?_
  refine g_iushr hE dJ6_bitCount_0f7a4_17 ?_
  refine g_ldcw hE dJ6_bitCount_0f7a4_18 ck_J6_266 ?_
  refine g_iand hE dJ6_bitCount_0f7a4_21 ?_
  refine g_iadd hE dJ6_bitCount_0f7a4_22 ?_
  refine g_istore_n hE dJ6_bitCount_0f7a4_23 [(0, .int (((z - (((Int32.toUInt32 z >>> (Int32.toUInt32 1 &&& Int32.toUInt32 31)).toInt32) &&& 1431655765)) &&& 858993459) + (((Int32.toUInt32 (z - (((Int32.toUInt32 z >>> (Int32.toUInt32 1 &&& Int32.toUInt32 31)).toInt32) &&& 1431655765)) >>> (Int32.toUInt32 2 &&& Int32.toUInt32 31)).toInt32) &&& 858993459)))] rfl (by decide) rfl ?_
  refine g_iload_n hE dJ6_bitCount_0f7a4_24 0 rfl ?_
  refine g_iload_n hE dJ6_bitCount_0f7a4_25 0 rfl ?_
  refine g_iconst hE dJ6_bitCount_0f7a4_26 4 (by decide) ?_
  refine g_iushr hE dJ6_bitCount_0f7a4_27 ?_
  refine g_iadd hE dJ6_bitCount_0f7a4_28 ?_
  refine g_ldcw hE dJ6_bitCount_0f7a4_29 ck_J6_267 ?_
  refine g_iand hE dJ6_bitCount_0f7a4_32 ?_
  refine g_istore_n hE dJ6_bitCount_0f7a4_33 [(0, .int (((((z - (((Int32.toUInt32 z >>> (Int32.toUInt32 1 &&& Int32.toUInt32 31)).toInt32) &&& 1431655765)) &&& 858993459) + (((Int32.toUInt32 (z - (((Int32.toUInt32 z >>> (Int32.toUInt32 1 &&& Int32.toUInt32 31)).toInt32) &&& 1431655765)) >>> (Int32.toUInt32 2 &&& Int32.toUInt32 31)).toInt32) &&& 858993459)) + ((Int32.toUInt32 (((z - (((Int32.toUInt32 z >>> (Int32.toUInt32 1 &&& Int32.toUInt32 31)).toInt32) &&& 1431655765)) &&& 858993459) + (((Int32.toUInt32 (z - (((Int32.toUInt32 z >>> (Int32.toUInt32 1 &&& Int32.toUInt32 31)).toInt32) &&& 1431655765)) >>> (Int32.toUInt32 2 &&& Int32.toUInt32 31)).toInt32) &&& 858993459)) >>> (Int32.toUInt32 4 &&& Int32.toUInt32 31)).toInt32)) &&& 252645135))] rfl (by decide) rfl ?_
  refine g_iload_n hE dJ6_bitCount_0f7a4_34 0 rfl ?_
  refine g_iload_n hE dJ6_bitCount_0f7a4_35 0 rfl ?_
  refine g_bipush hE dJ6_bitCount_0f7a4_36 8 (by decide) ?_
  refine g_iushr hE dJ6_bitCount_0f7a4_38 ?_
  refine g_iadd hE dJ6_bitCount_0f7a4_39 ?_
  refine g_istore_n hE dJ6_bitCount_0f7a4_40 [(0, .int ((((((z - (((Int32.toUInt32 z >>> (Int32.toUInt32 1 &&& Int32.toUInt32 31)).toInt32) &&& 1431655765)) &&& 858993459) + (((Int32.toUInt32 (z - (((Int32.toUInt32 z >>> (Int32.toUInt32 1 &&& Int32.toUInt32 31)).toInt32) &&& 1431655765)) >>> (Int32.toUInt32 2 &&& Int32.toUInt32 31)).toInt32) &&& 858993459)) + ((Int32.toUInt32 (((z - (((Int32.toUInt32 z >>> (Int32.toUInt32 1 &&& Int32.toUInt32 31)).toInt32) &&& 1431655765)) &&& 858993459) + (((Int32.toUInt32 (z - (((Int32.toUInt32 z >>> (Int32.toUInt32 1 &&& Int32.toUInt32 31)).toInt32) &&& 1431655765)) >>> (Int32.toUInt32 2 &&& Int32.toUInt32 31)).toInt32) &&& 858993459)) >>> (Int32.toUInt32 4 &&& Int32.toUInt32 31)).toInt32)) &&& 252645135) + ((Int32.toUInt32 (((((z - (((Int32.toUInt32 z >>> (Int32.toUInt32 1 &&& Int32.toUInt32 31)).toInt32) &&& 1431655765)) &&& 858993459) + (((Int32.toUInt32 (z - (((Int32.toUInt32 z >>> (Int32.toUInt32 1 &&& Int32.toUInt32 31)).toInt32) &&& 1431655765)) >>> (Int32.toUInt32 2 &&& Int32.toUInt32 31)).toInt32) &&& 858993459)) + ((Int32.toUInt32 (((z - (((Int32.toUInt32 z >>> (Int32.toUInt32 1 &&& Int32.toUInt32 31)).toInt32) &&& 1431655765)) &&& 858993459) + (((Int32.toUInt32 (z - (((Int32.toUInt32 z >>> (Int32.toUInt32 1 &&& Int32.toUInt32 31)).toInt32) &&& 1431655765)) >>> (Int32.toUInt32 2 &&& Int32.toUInt32 31)).toInt32) &&& 858993459)) >>> (Int32.toUInt32 4 &&& Int32.toUInt32 31)).toInt32)) &&& 252645135) >>> (Int32.toUInt32 8 &&& Int32.toUInt32 31)).toInt32)))] rfl (by decide) rfl ?_
  refine g_iload_n hE dJ6_bitCount_0f7a4_41 0 rfl ?_
  refine g_iload_n hE dJ6_bitCount_0f7a4_42 0 rfl ?_
  refine g_bipush hE dJ6_bitCount_0f7a4_43 16 (by decide) ?_
  refine g_iushr hE dJ6_bitCount_0f7a4_45 ?_
  refine g_iadd hE dJ6_bitCount_0f7a4_46 ?_
  refine g_istore_n hE dJ6_bitCount_0f7a4_47 [(0, .int (((((((z - (((Int32.toUInt32 z >>> (Int32.toUInt32 1 &&& Int32.toUInt32 31)).toInt32) &&& 1431655765)) &&& 858993459) + (((Int32.toUInt32 (z - (((Int32.toUInt32 z >>> (Int32.toUInt32 1 &&& Int32.toUInt32 31)).toInt32) &&& 1431655765)) >>> (Int32.toUInt32 2 &&& Int32.toUInt32 31)).toInt32) &&& 858993459)) + ((Int32.toUInt32 (((z - (((Int32.toUInt32 z >>> (Int32.toUInt32 1 &&& Int32.toUInt32 31)).toInt32) &&& 1431655765)) &&& 858993459) + (((Int32.toUInt32 (z - (((Int32.toUInt32 z >>> (Int32.toUInt32 1 &&& Int32.toUInt32 31)).toInt32) &&& 1431655765)) >>> (Int32.toUInt32 2 &&& Int32.toUInt32 31)).toInt32) &&& 858993459)) >>> (Int32.toUInt32 4 &&& Int32.toUInt32 31)).toInt32)) &&& 252645135) + ((Int32.toUInt32 (((((z - (((Int32.toUInt32 z >>> (Int32.toUInt32 1 &&& Int32.toUInt32 31)).toInt32) &&& 1431655765)) &&& 858993459) + (((Int32.toUInt32 (z - (((Int32.toUInt32 z >>> (Int32.toUInt32 1 &&& Int32.toUInt32 31)).toInt32) &&& 1431655765)) >>> (Int32.toUInt32 2 &&& Int32.toUInt32 31)).toInt32) &&& 858993459)) + ((Int32.toUInt32 (((z - (((Int32.toUInt32 z >>> (Int32.toUInt32 1 &&& Int32.toUInt32 31)).toInt32) &&& 1431655765)) &&& 858993459) + (((Int32.toUInt32 (z - (((Int32.toUInt32 z >>> (Int32.toUInt32 1 &&& Int32.toUInt32 31)).toInt32) &&& 1431655765)) >>> (Int32.toUInt32 2 &&& Int32.toUInt32 31)).toInt32) &&& 858993459)) >>> (Int32.toUInt32 4 &&& Int32.toUInt32 31)).toInt32)) &&& 252645135) >>> (Int32.toUInt32 8 &&& Int32.toUInt32 31)).toInt32)) + ((Int32.toUInt32 ((((((z - (((Int32.toUInt32 z >>> (Int32.toUInt32 1 &&& Int32.toUInt32 31)).toInt32) &&& 1431655765)) &&& 858993459) + (((Int32.toUInt32 (z - (((Int32.toUInt32 z >>> (Int32.toUInt32 1 &&& Int32.toUInt32 31)).toInt32) &&& 1431655765)) >>> (Int32.toUInt32 2 &&& Int32.toUInt32 31)).toInt32) &&& 858993459)) + ((Int32.toUInt32 (((z - (((Int32.toUInt32 z >>> (Int32.toUInt32 1 &&& Int32.toUInt32 31)).toInt32) &&& 1431655765)) &&& 858993459) + (((Int32.toUInt32 (z - (((Int32.toUInt32 z >>> (Int32.toUInt32 1 &&& Int32.toUInt32 31)).toInt32) &&& 1431655765)) >>> (Int32.toUInt32 2 &&& Int32.toUInt32 31)).toInt32) &&& 858993459)) >>> (Int32.toUInt32 4 &&& Int32.toUInt32 31)).toInt32)) &&& 252645135) + ((Int32.toUInt32 (((((z - (((Int32.toUInt32 z >>> (Int32.toUInt32 1 &&& Int32.toUInt32 31)).toInt32) &&& 1431655765)) &&& 858993459) + (((Int32.toUInt32 (z - (((Int32.toUInt32 z >>> (Int32.toUInt32 1 &&& Int32.toUInt32 31)).toInt32) &&& 1431655765)) >>> (Int32.toUInt32 2 &&& Int32.toUInt32 31)).toInt32) &&& 858993459)) + ((Int32.toUInt32 (((z - (((Int32.toUInt32 z >>> (Int32.toUInt32 1 &&& Int32.toUInt32 31)).toInt32) &&& 1431655765)) &&& 858993459) + (((Int32.toUInt32 (z - (((Int32.toUInt32 z >>> (Int32.toUInt32 1 &&& Int32.toUInt32 31)).toInt32) &&& 1431655765)) >>> (Int32.toUInt32 2 &&& Int32.toUInt32 31)).toInt32) &&& 858993459)) >>> (Int32.toUInt32 4 &&& Int32.toUInt32 31)).toInt32)) &&& 252645135) >>> (Int32.toUInt32 8 &&& Int32.toUInt32 31)).toInt32)) >>> (Int32.toUInt32 16 &&& Int32.toUInt32 31)).toInt32)))] rfl (by decide) rfl ?_
  refine g_iload_n hE dJ6_bitCount_0f7a4_48 0 rfl ?_
  refine g_bipush hE dJ6_bitCount_0f7a4_49 63 (by decide) ?_
  refine g_iand hE dJ6_bitCount_0f7a4_51 ?_
  exact g_iret hE hQ dJ6_bitCount_0f7a4_52 rfl ((((((((z - (((Int32.toUInt32 z >>> (Int32.toUInt32 1 &&& Int32.toUInt32 31)).toInt32) &&& 1431655765)) &&& 858993459) + (((Int32.toUInt32 (z - (((Int32.toUInt32 z >>> (Int32.toUInt32 1 &&& Int32.toUInt32 31)).toInt32) &&& 1431655765)) >>> (Int32.toUInt32 2 &&& Int32.toUInt32 31)).toInt32) &&& 858993459)) + ((Int32.toUInt32 (((z - (((Int32.toUInt32 z >>> (Int32.toUInt32 1 &&& Int32.toUInt32 31)).toInt32) &&& 1431655765)) &&& 858993459) + (((Int32.toUInt32 (z - (((Int32.toUInt32 z >>> (Int32.toUInt32 1 &&& Int32.toUInt32 31)).toInt32) &&& 1431655765)) >>> (Int32.toUInt32 2 &&& Int32.toUInt32 31)).toInt32) &&& 858993459)) >>> (Int32.toUInt32 4 &&& Int32.toUInt32 31)).toInt32)) &&& 252645135) + ((Int32.toUInt32 (((((z - (((Int32.toUInt32 z >>> (Int32.toUInt32 1 &&& Int32.toUInt32 31)).toInt32) &&& 1431655765)) &&& 858993459) + (((Int32.toUInt32 (z - (((Int32.toUInt32 z >>> (Int32.toUInt32 1 &&& Int32.toUInt32 31)).toInt32) &&& 1431655765)) >>> (Int32.toUInt32 2 &&& Int32.toUInt32 31)).toInt32) &&& 858993459)) + ((Int32.toUInt32 (((z - (((Int32.toUInt32 z >>> (Int32.toUInt32 1 &&& Int32.toUInt32 31)).toInt32) &&& 1431655765)) &&& 858993459) + (((Int32.toUInt32 (z - (((Int32.toUInt32 z >>> (Int32.toUInt32 1 &&& Int32.toUInt32 31)).toInt32) &&& 1431655765)) >>> (Int32.toUInt32 2 &&& Int32.toUInt32 31)).toInt32) &&& 858993459)) >>> (Int32.toUInt32 4 &&& Int32.toUInt32 31)).toInt32)) &&& 252645135) >>> (Int32.toUInt32 8 &&& Int32.toUInt32 31)).toInt32)) + ((Int32.toUInt32 ((((((z - (((Int32.toUInt32 z >>> (Int32.toUInt32 1 &&& Int32.toUInt32 31)).toInt32) &&& 1431655765)) &&& 858993459) + (((Int32.toUInt32 (z - (((Int32.toUInt32 z >>> (Int32.toUInt32 1 &&& Int32.toUInt32 31)).toInt32) &&& 1431655765)) >>> (Int32.toUInt32 2 &&& Int32.toUInt32 31)).toInt32) &&& 858993459)) + ((Int32.toUInt32 (((z - (((Int32.toUInt32 z >>> (Int32.toUInt32 1 &&& Int32.toUInt32 31)).toInt32) &&& 1431655765)) &&& 858993459) + (((Int32.toUInt32 (z - (((Int32.toUInt32 z >>> (Int32.toUInt32 1 &&& Int32.toUInt32 31)).toInt32) &&& 1431655765)) >>> (Int32.toUInt32 2 &&& Int32.toUInt32 31)).toInt32) &&& 858993459)) >>> (Int32.toUInt32 4 &&& Int32.toUInt32 31)).toInt32)) &&& 252645135) + ((Int32.toUInt32 (((((z - (((Int32.toUInt32 z >>> (Int32.toUInt32 1 &&& Int32.toUInt32 31)).toInt32) &&& 1431655765)) &&& 858993459) + (((Int32.toUInt32 (z - (((Int32.toUInt32 z >>> (Int32.toUInt32 1 &&& Int32.toUInt32 31)).toInt32) &&& 1431655765)) >>> (Int32.toUInt32 2 &&& Int32.toUInt32 31)).toInt32) &&& 858993459)) + ((Int32.toUInt32 (((z - (((Int32.toUInt32 z >>> (Int32.toUInt32 1 &&& Int32.toUInt32 31)).toInt32) &&& 1431655765)) &&& 858993459) + (((Int32.toUInt32 (z - (((Int32.toUInt32 z >>> (Int32.toUInt32 1 &&& Int32.toUInt32 31)).toInt32) &&& 1431655765)) >>> (Int32.toUInt32 2 &&& Int32.toUInt32 31)).toInt32) &&& 858993459)) >>> (Int32.toUInt32 4 &&& Int32.toUInt32 31)).toInt32)) &&& 252645135) >>> (Int32.toUInt32 8 &&& Int32.toUInt32 31)).toInt32)) >>> (Int32.toUInt32 16 &&& Int32.toUInt32 31)).toInt32)) &&& 63) rfl rfl (by subst hz; exact (show ∀ s, s < 64 → (((((((((nI s) - (((Int32.toUInt32 (nI s) >>> (Int32.toUInt32 1 &&& Int32.toUInt32 31)).toInt32) &&& 1431655765)) &&& 858993459) + (((Int32.toUInt32 ((nI s) - (((Int32.toUInt32 (nI s) >>> (Int32.toUInt32 1 &&& Int32.toUInt32 31)).toInt32) &&& 1431655765)) >>> (Int32.toUInt32 2 &&& Int32.toUInt32 31)).toInt32) &&& 858993459)) + ((Int32.toUInt32 ((((nI s) - (((Int32.toUInt32 (nI s) >>> (Int32.toUInt32 1 &&& Int32.toUInt32 31)).toInt32) &&& 1431655765)) &&& 858993459) + (((Int32.toUInt32 ((nI s) - (((Int32.toUInt32 (nI s) >>> (Int32.toUInt32 1 &&& Int32.toUInt32 31)).toInt32) &&& 1431655765)) >>> (Int32.toUInt32 2 &&& Int32.toUInt32 31)).toInt32) &&& 858993459)) >>> (Int32.toUInt32 4 &&& Int32.toUInt32 31)).toInt32)) &&& 252645135) + ((Int32.toUInt32 ((((((nI s) - (((Int32.toUInt32 (nI s) >>> (Int32.toUInt32 1 &&& Int32.toUInt32 31)).toInt32) &&& 1431655765)) &&& 858993459) + (((Int32.toUInt32 ((nI s) - (((Int32.toUInt32 (nI s) >>> (Int32.toUInt32 1 &&& Int32.toUInt32 31)).toInt32) &&& 1431655765)) >>> (Int32.toUInt32 2 &&& Int32.toUInt32 31)).toInt32) &&& 858993459)) + ((Int32.toUInt32 ((((nI s) - (((Int32.toUInt32 (nI s) >>> (Int32.toUInt32 1 &&& Int32.toUInt32 31)).toInt32) &&& 1431655765)) &&& 858993459) + (((Int32.toUInt32 ((nI s) - (((Int32.toUInt32 (nI s) >>> (Int32.toUInt32 1 &&& Int32.toUInt32 31)).toInt32) &&& 1431655765)) >>> (Int32.toUInt32 2 &&& Int32.toUInt32 31)).toInt32) &&& 858993459)) >>> (Int32.toUInt32 4 &&& Int32.toUInt32 31)).toInt32)) &&& 252645135) >>> (Int32.toUInt32 8 &&& Int32.toUInt32 31)).toInt32)) + ((Int32.toUInt32 (((((((nI s) - (((Int32.toUInt32 (nI s) >>> (Int32.toUInt32 1 &&& Int32.toUInt32 31)).toInt32) &&& 1431655765)) &&& 858993459) + (((Int32.toUInt32 ((nI s) - (((Int32.toUInt32 (nI s) >>> (Int32.toUInt32 1 &&& Int32.toUInt32 31)).toInt32) &&& 1431655765)) >>> (Int32.toUInt32 2 &&& Int32.toUInt32 31)).toInt32) &&& 858993459)) + ((Int32.toUInt32 ((((nI s) - (((Int32.toUInt32 (nI s) >>> (Int32.toUInt32 1 &&& Int32.toUInt32 31)).toInt32) &&& 1431655765)) &&& 858993459) + (((Int32.toUInt32 ((nI s) - (((Int32.toUInt32 (nI s) >>> (Int32.toUInt32 1 &&& Int32.toUInt32 31)).toInt32) &&& 1431655765)) >>> (Int32.toUInt32 2 &&& Int32.toUInt32 31)).toInt32) &&& 858993459)) >>> (Int32.toUInt32 4 &&& Int32.toUInt32 31)).toInt32)) &&& 252645135) + ((Int32.toUInt32 ((((((nI s) - (((Int32.toUInt32 (nI s) >>> (Int32.toUInt32 1 &&& Int32.toUInt32 31)).toInt32) &&& 1431655765)) &&& 858993459) + (((Int32.toUInt32 ((nI s) - (((Int32.toUInt32 (nI s) >>> (Int32.toUInt32 1 &&& Int32.toUInt32 31)).toInt32) &&& 1431655765)) >>> (Int32.toUInt32 2 &&& Int32.toUInt32 31)).toInt32) &&& 858993459)) + ((Int32.toUInt32 ((((nI s) - (((Int32.toUInt32 (nI s) >>> (Int32.toUInt32 1 &&& Int32.toUInt32 31)).toInt32) &&& 1431655765)) &&& 858993459) + (((Int32.toUInt32 ((nI s) - (((Int32.toUInt32 (nI s) >>> (Int32.toUInt32 1 &&& Int32.toUInt32 31)).toInt32) &&& 1431655765)) >>> (Int32.toUInt32 2 &&& Int32.toUInt32 31)).toInt32) &&& 858993459)) >>> (Int32.toUInt32 4 &&& Int32.toUInt32 31)).toInt32)) &&& 252645135) >>> (Int32.toUInt32 8 &&& Int32.toUInt32 31)).toInt32)) >>> (Int32.toUInt32 16 &&& Int32.toUInt32 31)).toInt32)) &&& 63) = nI (bcS s) by decide +kernel) s hs)
set_option maxHeartbeats 4000000 in
set_option maxRecDepth 100000 in
theorem c_X1_begin (cI cS : ClassId) (a : Nat → Nat) (T C : Nat → Int32) (li ap va le : Int32) (x y : Int32) : CT cI cS yX1_begin cX1_begin 3 none 0 [.ref (a 0), .int x, .int y] (searchW cI a (seS T C li ap va le)) 0 0 (fun u : Unit => True) (fun u => none) (fun u => (searchW cI a (seS T C x y 0 (-1)))) := by
  refine ct_intro (by decide) (Nat.le_of_ble_eq_true rfl) (fun E Q hE hQ hI => ?_)
  have hE : CxOk E cI cS RX1 cX1_begin 3 none 0 0 0 := hE
  show Go E Q 3 0 0 0 [(0, .ref (a 0)), (1, .int x), (2, .int y)] [] (searchW cI a (seS T C li ap va le))
  refine g_aload_n hE dX1_begin_0 0 rfl ?_
  refine g_iload_n hE dX1_begin_1 1 rfl ?_
  refine g_put hE fl_X1_22 fp_1_2 dX1_begin_2 0 rfl rfl rfl (Nat.le_of_ble_eq_true rfl) (searchW cI a (seS T C x ap va le)) (by rfl) ?_
  refine g_aload_n hE dX1_begin_5 0 rfl ?_
  refine g_iload_n hE dX1_begin_6 2 rfl ?_
  refine g_put hE fl_X1_25 fp_1_3 dX1_begin_7 0 rfl rfl rfl (Nat.le_of_ble_eq_true rfl) (searchW cI a (seS T C x y va le)) (by rfl) ?_
  refine g_aload_n hE dX1_begin_10 0 rfl ?_
  refine g_iconst hE dX1_begin_11 0 (by decide) ?_
  refine g_put hE fl_X1_28 fp_1_4 dX1_begin_12 0 rfl rfl rfl (Nat.le_of_ble_eq_true rfl) (searchW cI a (seS T C x y 0 le)) (by rfl) ?_
  refine g_aload_n hE dX1_begin_15 0 rfl ?_
  refine g_iconst hE dX1_begin_16 (-1) (by decide) ?_
  refine g_put hE fl_X1_18 fp_1_5 dX1_begin_17 0 rfl rfl rfl (Nat.le_of_ble_eq_true rfl) (searchW cI a (seS T C x y 0 (-1))) (by rfl) ?_
  exact g_vret hE hQ dX1_begin_20 () rfl rfl trivial
set_option maxHeartbeats 4000000 in
set_option maxRecDepth 100000 in
theorem c_X1_choose (cI cS : ClassId) (a : Nat → Nat) (T C : Nat → Int32) (li ap va le : Int32) (x y : Int32) : CT cI cS yX1_choose cX1_choose 3 none 1 [.ref (a 0), .int x, .int y] (searchW cI a (seS T C li ap va le)) 0 0 (fun u : Unit => True) (fun u => none) (fun u => (searchW cI a (seS T T li ap y x))) := by
  refine ct_intro (by decide) (Nat.le_of_ble_eq_true rfl) (fun E Q hE hQ hI => ?_)
  have hE : CxOk E cI cS RX1 cX1_choose 3 none 1 0 0 := hE
  show Go E Q 3 0 0 0 [(0, .ref (a 0)), (1, .int x), (2, .int y)] [] (searchW cI a (seS T C li ap va le))
  refine g_aload_n hE dX1_choose_0 0 rfl ?_
  refine g_get hE fl_X1_9 dX1_choose_1 0 rfl rfl ?_
  refine g_aload_n hE dX1_choose_4 0 rfl ?_
  refine g_get hE fl_X1_15 dX1_choose_5 0 rfl rfl ?_
  refine g_callSN hE (c_X4_copyAll cI cS (a 1) (a 2) 4 T C (by decide)) mk_X4_copyAll st_X4_copyAll nl_X1_31 dX1_choose_8 (As := [.ref (a 1), .ref (a 2)]) (rest := []) rfl rfl (by decide) (by decide) (Nat.le_of_ble_eq_true rfl) (by decide) (by decide) [1, 2] rfl (by decide) (fun u => Nat.le_of_ble_eq_true rfl) (ws' := fun u => searchW cI a (seS T T li ap va le)) (fun u => rfl) (fun u hu => ?_)
  show Go E Q 3 0 0 11 [(0, .ref (a 0)), (1, .int x), (2, .int y)] [] (searchW cI a (seS T T li ap va le))
  refine g_aload_n hE dX1_choose_11 0 rfl ?_
  refine g_iload_n hE dX1_choose_12 1 rfl ?_
  refine g_put hE fl_X1_18 fp_1_5 dX1_choose_13 0 rfl rfl rfl (Nat.le_of_ble_eq_true rfl) (searchW cI a (seS T T li ap va x)) (by rfl) ?_
  refine g_aload_n hE dX1_choose_16 0 rfl ?_
  refine g_iload_n hE dX1_choose_17 2 rfl ?_
  refine g_put hE fl_X1_28 fp_1_4 dX1_choose_18 0 rfl rfl rfl (Nat.le_of_ble_eq_true rfl) (searchW cI a (seS T T li ap y x)) (by rfl) ?_
  exact g_vret hE hQ dX1_choose_21 () rfl rfl trivial
set_option maxHeartbeats 4000000 in
set_option maxRecDepth 100000 in
theorem c_X1_mixes (cI cS : ClassId) (a : Nat → Nat) (T C : Nat → Int32) (li ap va le : Int32) (z : Int32) (s aps : Nat) (hz : z = nI s) (hs : s < 64) (hap : ap = nI aps) (haps : aps < 64) : CT cI cS yX1_mixes cX1_mixes 2 (some .boolean) 1 [.ref (a 0), .int z] (searchW cI a (seS T C li ap va le)) 0 0 (fun u : Int32 => u = if 1 < bcS (s &&& aps) then 1 else 0) (fun u => some (.int u)) (fun u => (searchW cI a (seS T C li ap va le))) := by
  refine ct_intro (by decide) (Nat.le_of_ble_eq_true rfl) (fun E Q hE hQ hI => ?_)
  have hE : CxOk E cI cS RX1 cX1_mixes 2 (some .boolean) 1 0 0 := hE
  show Go E Q 2 0 0 0 [(0, .ref (a 0)), (1, .int z)] [] (searchW cI a (seS T C li ap va le))
  refine g_iload_n hE dX1_mixes_0 1 rfl ?_
  refine g_aload_n hE dX1_mixes_1 0 rfl ?_
  refine g_get hE fl_X1_25 dX1_mixes_2 0 rfl rfl ?_
  refine g_iand hE dX1_mixes_5 ?_
  refine g_callS hE (c_J6_bitCount_0f7a4 cI cS (z &&& ap) (s &&& aps) (show (z &&& ap) = nI (s &&& aps) from (and_i (show z = nI s from hz) (show ap = nI aps from hap) (by first | assumption | exact bs_lt64 _ (by assumption) | exact fallS_lt (by assumption) (by assumption) | exact nd_lt (by assumption) (by assumption) | exact nd_lt (by assumption) (fallS_lt (by assumption) (by assumption)) | exact nd_lt (by assumption) (bs_lt64 _ (by assumption)) | exact and_lt (by assumption) (by assumption) | decide) (by first | assumption | exact bs_lt64 _ (by assumption) | exact fallS_lt (by assumption) (by assumption) | exact nd_lt (by assumption) (by assumption) | exact nd_lt (by assumption) (fallS_lt (by assumption) (by assumption)) | exact nd_lt (by assumption) (bs_lt64 _ (by assumption)) | exact and_lt (by assumption) (by assumption) | decide))) (by first | assumption | exact bs_lt64 _ (by assumption) | exact fallS_lt (by assumption) (by assumption) | exact nd_lt (by assumption) (by assumption) | exact nd_lt (by assumption) (fallS_lt (by assumption) (by assumption)) | exact nd_lt (by assumption) (bs_lt64 _ (by assumption)) | exact and_lt (by assumption) (by assumption) | decide)) mk_J6_bitCount_0f7a4 st_J6_bitCount_0f7a4 ml_X1_35 dX1_mixes_6 (As := [.int (z &&& ap)]) (rest := []) rfl rfl (by decide) (by decide) (Nat.le_of_ble_eq_true rfl) (by decide) (by decide) [] rfl (by decide) (fun u => Nat.le_of_ble_eq_true rfl) (ws' := fun u => searchW cI a (seS T C li ap va le)) (fun u => rfl) (fun u hu => ?_)
  obtain ⟨r_1, rfl⟩ : ∃ z, z = u := ⟨_, rfl⟩
  have h2 : r_1 = (nI (bcS (s &&& aps))) := hu
  subst h2
  show Go E Q 2 0 0 9 [(0, .ref (a 0)), (1, .int z)] [.int (nI (bcS (s &&& aps)))] (searchW cI a (seS T C li ap va le))
  refine g_iconst hE dX1_mixes_9 1 (by decide) ?_
  refine g_icmp_le hE 17 dX1_mixes_10 (by decide) (fun c3 => ?_) (fun c3 => ?_)
  · refine g_iconst hE dX1_mixes_17 0 (by decide) ?_
    exact g_iret hE hQ dX1_mixes_18 (by first | rfl | decide) 0 rfl rfl (by first | exact (if_pos (mx_t hs haps (by assumption))).symm | exact (if_neg (mx_f hs haps (by assumption))).symm)
  · refine g_iconst hE dX1_mixes_13 1 (by decide) ?_
    refine g_goto hE 18 dX1_mixes_14 (by decide) ?_
    exact g_iret hE hQ dX1_mixes_18 (by first | rfl | decide) 1 rfl rfl (by first | exact (if_pos (mx_t hs haps (by assumption))).symm | exact (if_neg (mx_f hs haps (by assumption))).symm)
set_option maxHeartbeats 4000000 in
set_option maxRecDepth 100000 in
theorem c_X1_chosenAt (cI cS : ClassId) (a : Nat → Nat) (T C : Nat → Int32) (li ap va le : Int32) (i : Int32) : CT cI cS yX1_chosenAt cX1_chosenAt 2 (some .int) 1 [.ref (a 0), .int i] (searchW cI a (seS T C li ap va le)) 0 0 (fun u : Int32 => u = if i < le then atv C 4 i else -4) (fun u => some (.int u)) (fun u => (searchW cI a (seS T C li ap va le))) := by
  refine ct_intro (by decide) (Nat.le_of_ble_eq_true rfl) (fun E Q hE hQ hI => ?_)
  have hE : CxOk E cI cS RX1 cX1_chosenAt 2 (some .int) 1 0 0 := hE
  show Go E Q 2 0 0 0 [(0, .ref (a 0)), (1, .int i)] [] (searchW cI a (seS T C li ap va le))
  refine g_iload_n hE dX1_chosenAt_0 1 rfl ?_
  refine g_aload_n hE dX1_chosenAt_1 0 rfl ?_
  refine g_get hE fl_X1_18 dX1_chosenAt_2 0 rfl rfl ?_
  refine g_icmp_ge hE 19 dX1_chosenAt_5 (by decide) (fun c1 => ?_) (fun c1 => ?_)
  · refine g_bipush hE dX1_chosenAt_19 (-4) (by decide) ?_
    exact g_iret hE hQ dX1_chosenAt_21 rfl (-4) rfl rfl (by first | exact (if_pos (Int32.not_le.mp (by assumption))).symm | exact (if_neg (Int32.not_lt.mpr (by assumption))).symm)
  · refine g_aload_n hE dX1_chosenAt_8 0 rfl ?_
    refine g_get hE fl_X1_15 dX1_chosenAt_9 0 rfl rfl ?_
    refine g_iload_n hE dX1_chosenAt_12 1 rfl ?_
    refine g_callSN hE (c_X4_at cI cS (a 2) 4 C i (by decide)) mk_X4_at st_X4_at nl_X1_41 dX1_chosenAt_13 (As := [.ref (a 2), .int i]) (rest := []) rfl rfl (by decide) (by decide) (Nat.le_of_ble_eq_true rfl) (by decide) (by decide) [2] rfl (by decide) (fun u => Nat.le_of_ble_eq_true rfl) (ws' := fun u => searchW cI a (seS T C li ap va le)) (fun u => rfl) (fun u hu => ?_)
    obtain ⟨r_2, rfl⟩ : ∃ z, z = u := ⟨_, rfl⟩
    have h3 : r_2 = (atv C 4 i) := hu
    subst h3
    show Go E Q 2 0 0 16 [(0, .ref (a 0)), (1, .int i)] [.int (atv C 4 i)] (searchW cI a (seS T C li ap va le))
    refine g_goto hE 21 dX1_chosenAt_16 (by decide) ?_
    exact g_iret hE hQ dX1_chosenAt_21 rfl (atv C 4 i) rfl rfl (by first | exact (if_pos (Int32.not_le.mp (by assumption))).symm | exact (if_neg (Int32.not_lt.mpr (by assumption))).symm)
set_option maxHeartbeats 4000000 in
set_option maxRecDepth 100000 in
theorem c_X2_hasItems (cI cS : ClassId) (a : Nat → Nat) (T : Nat → Int32) (ln le : Int32) (i k : Int32) : CT cI cS yX2_hasItems cX2_hasItems 3 (some .boolean) 0 [.ref (a 0), .int i, .int k] (sheetW cI a (shT T ln le)) 0 0 (fun u : Int32 => u = if hasI le i k then 1 else 0) (fun u => some (.int u)) (fun u => (sheetW cI a (shT T ln le))) := by
  refine ct_intro (by decide) (Nat.le_of_ble_eq_true rfl) (fun E Q hE hQ hI => ?_)
  have hE : CxOk E cI cS RX2 cX2_hasItems 3 (some .boolean) 0 0 0 := hE
  show Go E Q 3 0 0 0 [(0, .ref (a 0)), (1, .int i), (2, .int k)] [] (sheetW cI a (shT T ln le))
  refine g_iload_n hE dX2_hasItems_0 1 rfl ?_
  refine g_if_lt hE 30 dX2_hasItems_1 (by decide) (fun c1 => ?_) (fun c1 => ?_)
  · refine g_iconst hE dX2_hasItems_30 0 (by decide) ?_
    exact g_iret hE hQ dX2_hasItems_31 (by first | rfl | decide) 0 rfl rfl (by first | exact (if_pos ⟨Int32.not_lt.mp (by assumption), Int32.not_lt.mp (by assumption), Int32.not_lt.mp (by assumption), Int32.not_lt.mp (by assumption)⟩).symm | exact (if_neg (fun q => absurd q.1 (Int32.not_le.mpr (by assumption)))).symm | exact (if_neg (fun q => absurd q.2.1 (Int32.not_le.mpr (by assumption)))).symm | exact (if_neg (fun q => absurd q.2.2.1 (Int32.not_le.mpr (by assumption)))).symm | exact (if_neg (fun q => absurd q.2.2.2 (Int32.not_le.mpr (by assumption)))).symm)
  · refine g_iload_n hE dX2_hasItems_4 1 rfl ?_
    refine g_aload_n hE dX2_hasItems_5 0 rfl ?_
    refine g_get hE fl_X2_25 dX2_hasItems_6 0 rfl rfl ?_
    refine g_icmp_gt hE 30 dX2_hasItems_9 (by decide) (fun c2 => ?_) (fun c2 => ?_)
    · refine g_iconst hE dX2_hasItems_30 0 (by decide) ?_
      exact g_iret hE hQ dX2_hasItems_31 (by first | rfl | decide) 0 rfl rfl (by first | exact (if_pos ⟨Int32.not_lt.mp (by assumption), Int32.not_lt.mp (by assumption), Int32.not_lt.mp (by assumption), Int32.not_lt.mp (by assumption)⟩).symm | exact (if_neg (fun q => absurd q.1 (Int32.not_le.mpr (by assumption)))).symm | exact (if_neg (fun q => absurd q.2.1 (Int32.not_le.mpr (by assumption)))).symm | exact (if_neg (fun q => absurd q.2.2.1 (Int32.not_le.mpr (by assumption)))).symm | exact (if_neg (fun q => absurd q.2.2.2 (Int32.not_le.mpr (by assumption)))).symm)
    · refine g_iload_n hE dX2_hasItems_12 2 rfl ?_
      refine g_if_lt hE 30 dX2_hasItems_13 (by decide) (fun c3 => ?_) (fun c3 => ?_)
      · refine g_iconst hE dX2_hasItems_30 0 (by decide) ?_
        exact g_iret hE hQ dX2_hasItems_31 (by first | rfl | decide) 0 rfl rfl (by first | exact (if_pos ⟨Int32.not_lt.mp (by assumption), Int32.not_lt.mp (by assumption), Int32.not_lt.mp (by assumption), Int32.not_lt.mp (by assumption)⟩).symm | exact (if_neg (fun q => absurd q.1 (Int32.not_le.mpr (by assumption)))).symm | exact (if_neg (fun q => absurd q.2.1 (Int32.not_le.mpr (by assumption)))).symm | exact (if_neg (fun q => absurd q.2.2.1 (Int32.not_le.mpr (by assumption)))).symm | exact (if_neg (fun q => absurd q.2.2.2 (Int32.not_le.mpr (by assumption)))).symm)
      · refine g_iload_n hE dX2_hasItems_16 2 rfl ?_
        refine g_aload_n hE dX2_hasItems_17 0 rfl ?_
        refine g_get hE fl_X2_25 dX2_hasItems_18 0 rfl rfl ?_
        refine g_iload_n hE dX2_hasItems_21 1 rfl ?_
        refine g_isub hE dX2_hasItems_22 ?_
        refine g_icmp_gt hE 30 dX2_hasItems_23 (by decide) (fun c4 => ?_) (fun c4 => ?_)
        · refine g_iconst hE dX2_hasItems_30 0 (by decide) ?_
          exact g_iret hE hQ dX2_hasItems_31 (by first | rfl | decide) 0 rfl rfl (by first | exact (if_pos ⟨Int32.not_lt.mp (by assumption), Int32.not_lt.mp (by assumption), Int32.not_lt.mp (by assumption), Int32.not_lt.mp (by assumption)⟩).symm | exact (if_neg (fun q => absurd q.1 (Int32.not_le.mpr (by assumption)))).symm | exact (if_neg (fun q => absurd q.2.1 (Int32.not_le.mpr (by assumption)))).symm | exact (if_neg (fun q => absurd q.2.2.1 (Int32.not_le.mpr (by assumption)))).symm | exact (if_neg (fun q => absurd q.2.2.2 (Int32.not_le.mpr (by assumption)))).symm)
        · refine g_iconst hE dX2_hasItems_26 1 (by decide) ?_
          refine g_goto hE 31 dX2_hasItems_27 (by decide) ?_
          exact g_iret hE hQ dX2_hasItems_31 (by first | rfl | decide) 1 rfl rfl (by first | exact (if_pos ⟨Int32.not_lt.mp (by assumption), Int32.not_lt.mp (by assumption), Int32.not_lt.mp (by assumption), Int32.not_lt.mp (by assumption)⟩).symm | exact (if_neg (fun q => absurd q.1 (Int32.not_le.mpr (by assumption)))).symm | exact (if_neg (fun q => absurd q.2.1 (Int32.not_le.mpr (by assumption)))).symm | exact (if_neg (fun q => absurd q.2.2.1 (Int32.not_le.mpr (by assumption)))).symm | exact (if_neg (fun q => absurd q.2.2.2 (Int32.not_le.mpr (by assumption)))).symm)
set_option maxHeartbeats 4000000 in
set_option maxRecDepth 100000 in
theorem c_X2_refusal (cI cS : ClassId) (a : Nat → Nat) (T : Nat → Int32) (ln le : Int32) (l i k : Int32) : CT cI cS yX2_refusal cX2_refusal 4 (some .int) 1 [.ref (a 0), .int l, .int i, .int k] (sheetW cI a (shT T ln le)) 0 0 (fun u : Int32 => u = refS ln le l i k) (fun u => some (.int u)) (fun u => (sheetW cI a (shT T ln le))) := by
  refine ct_intro (by decide) (Nat.le_of_ble_eq_true rfl) (fun E Q hE hQ hI => ?_)
  have hE : CxOk E cI cS RX2 cX2_refusal 4 (some .int) 1 0 0 := hE
  show Go E Q 4 0 0 0 [(0, .ref (a 0)), (1, .int l), (2, .int i), (3, .int k)] [] (sheetW cI a (shT T ln le))
  refine g_aload_n hE dX2_refusal_0 0 rfl ?_
  refine g_get hE fl_X2_15 dX2_refusal_1 0 rfl rfl ?_
  refine g_iconst hE dX2_refusal_4 (-1) (by decide) ?_
  refine g_icmp_ne hE 11 dX2_refusal_5 (by decide) (fun c1 => ?_) (fun c1 => ?_)
  · refine g_aload_n hE dX2_refusal_11 0 rfl ?_
    refine g_get hE fl_X2_15 dX2_refusal_12 0 rfl rfl ?_
    refine g_iload_n hE dX2_refusal_15 1 rfl ?_
    refine g_icmp_eq hE 22 dX2_refusal_16 (by decide) (fun c2 => ?_) (fun c2 => ?_)
    · refine g_aload_n hE dX2_refusal_22 0 rfl ?_
      refine g_iload_n hE dX2_refusal_23 2 rfl ?_
      refine g_iload_n hE dX2_refusal_24 3 rfl ?_
      refine g_callV hE (c_X2_hasItems cI cS a T ln le i k) mk_X2_hasItems mv_X2_hasItems ml_X2_28 dX2_refusal_25 (As := [.int i, .int k]) (rest := []) rfl rfl 0 rfl (show vwCl[2]? = some (RX2, TX2, 3) from rfl) (by decide) (by decide) (Nat.le_of_ble_eq_true rfl) (by decide) (by decide) [0, 1] rfl (by decide) (fun u => Nat.le_of_ble_eq_true rfl) (ws' := fun u => sheetW cI a (shT T ln le)) (fun u => rfl) (fun u hu => ?_)
      obtain ⟨r_3, rfl⟩ : ∃ z, z = u := ⟨_, rfl⟩
      have h4 : r_3 = if hasI le i k then 1 else 0 := hu
      by_cases c5 : hasI le i k
      · rw [if_pos c5] at h4
        subst h4
        show Go E Q 4 0 0 28 [(0, .ref (a 0)), (1, .int l), (2, .int i), (3, .int k)] [.int 1] (sheetW cI a (shT T ln le))
        refine g_if_eq hE 35 dX2_refusal_28 (by decide) (fun c6 => absurd c6 (by decide)) (fun c6 => ?_)
        refine g_iconst hE dX2_refusal_31 0 (by decide) ?_
        refine g_goto hE 37 dX2_refusal_32 (by decide) ?_
        exact g_iret hE hQ dX2_refusal_37 rfl 0 rfl rfl (by unfold refS; first | rw [if_pos (by assumption)] | rw [if_neg (c := ln = -1) (by assumption), if_neg (c := ln = l) (by assumption)] | rw [if_neg (c := ln = -1) (by assumption), if_pos (c := ln = l) (by assumption), if_pos (c := hasI le i k) (by assumption)] | rw [if_neg (c := ln = -1) (by assumption), if_pos (c := ln = l) (by assumption), if_neg (c := hasI le i k) (by assumption)])
      · rw [if_neg c5] at h4
        subst h4
        show Go E Q 4 0 0 28 [(0, .ref (a 0)), (1, .int l), (2, .int i), (3, .int k)] [.int 0] (sheetW cI a (shT T ln le))
        refine g_if_eq hE 35 dX2_refusal_28 (by decide) (fun c7 => ?_) (fun c7 => absurd (by decide) c7)
        refine g_bipush hE dX2_refusal_35 (-13) (by decide) ?_
        exact g_iret hE hQ dX2_refusal_37 rfl (-13) rfl rfl (by unfold refS; first | rw [if_pos (by assumption)] | rw [if_neg (c := ln = -1) (by assumption), if_neg (c := ln = l) (by assumption)] | rw [if_neg (c := ln = -1) (by assumption), if_pos (c := ln = l) (by assumption), if_pos (c := hasI le i k) (by assumption)] | rw [if_neg (c := ln = -1) (by assumption), if_pos (c := ln = l) (by assumption), if_neg (c := hasI le i k) (by assumption)])
    · refine g_bipush hE dX2_refusal_19 (-12) (by decide) ?_
      exact g_iret hE hQ dX2_refusal_21 rfl (-12) rfl rfl (by unfold refS; first | rw [if_pos (by assumption)] | rw [if_neg (c := ln = -1) (by assumption), if_neg (c := ln = l) (by assumption)] | rw [if_neg (c := ln = -1) (by assumption), if_pos (c := ln = l) (by assumption), if_pos (c := hasI le i k) (by assumption)] | rw [if_neg (c := ln = -1) (by assumption), if_pos (c := ln = l) (by assumption), if_neg (c := hasI le i k) (by assumption)])
  · refine g_bipush hE dX2_refusal_8 (-11) (by decide) ?_
    exact g_iret hE hQ dX2_refusal_10 rfl (-11) rfl rfl (by unfold refS; first | rw [if_pos (by assumption)] | rw [if_neg (c := ln = -1) (by assumption), if_neg (c := ln = l) (by assumption)] | rw [if_neg (c := ln = -1) (by assumption), if_pos (c := ln = l) (by assumption), if_pos (c := hasI le i k) (by assumption)] | rw [if_neg (c := ln = -1) (by assumption), if_pos (c := ln = l) (by assumption), if_neg (c := hasI le i k) (by assumption)])
set_option maxHeartbeats 4000000 in
set_option maxRecDepth 100000 in
theorem c_X2_write (cI cS : ClassId) (a : Nat → Nat) (T : Nat → Int32) (ln le : Int32) (i v : Int32) : CT cI cS yX2_write cX2_write 3 none 1 [.ref (a 0), .int i, .int v] (sheetW cI a (shT T ln le)) 0 0 (fun u : Unit => True) (fun u => none) (fun u => (sheetW cI a (shT (putv T 24 i (lnS ln v)) ln le))) := by
  refine ct_intro (by decide) (Nat.le_of_ble_eq_true rfl) (fun E Q hE hQ hI => ?_)
  have hE : CxOk E cI cS RX2 cX2_write 3 none 1 0 0 := hE
  show Go E Q 3 0 0 0 [(0, .ref (a 0)), (1, .int i), (2, .int v)] [] (sheetW cI a (shT T ln le))
  refine g_aload_n hE dX2_write_0 0 rfl ?_
  refine g_get hE fl_X2_9 dX2_write_1 0 rfl rfl ?_
  refine g_iload_n hE dX2_write_4 1 rfl ?_
  refine g_aload_n hE dX2_write_5 0 rfl ?_
  refine g_get hE fl_X2_15 dX2_write_6 0 rfl rfl ?_
  refine g_if_ne hE 17 dX2_write_9 (by decide) (fun c1 => ?_) (fun c1 => ?_)
  · refine g_aload_n hE dX2_write_17 0 rfl ?_
    refine g_get hE fl_X2_15 dX2_write_18 0 rfl rfl ?_
    refine g_iconst hE dX2_write_21 1 (by decide) ?_
    refine g_icmp_ne hE 30 dX2_write_22 (by decide) (fun c2 => ?_) (fun c2 => ?_)
    · refine g_iload_n hE dX2_write_30 2 rfl ?_
      refine g_callSN hE (c_X4_put cI cS (a 1) 24 T i v (by decide)) mk_X4_put st_X4_put nl_X2_32 dX2_write_31 (As := [.ref (a 1), .int i, .int v]) (rest := []) rfl rfl (by decide) (by decide) (Nat.le_of_ble_eq_true rfl) (by decide) (by decide) [1] rfl (by decide) (fun u => Nat.le_of_ble_eq_true rfl) (ws' := fun u => sheetW cI a (shT u ln le)) (fun u => rfl) (fun u hu => ?_)
      obtain ⟨f_3, rfl⟩ : ∃ z, z = u := ⟨_, rfl⟩
      have h4 : f_3 = putv T 24 i v := hu
      have h5 : f_3 = (putv T 24 i v) := h4
      subst h5
      show Go E Q 3 0 0 34 [(0, .ref (a 0)), (1, .int i), (2, .int v)] [] (sheetW cI a (shT (putv T 24 i v) ln le))
      refine g_world (sheetW cI a (shT (putv T 24 i (lnS ln v)) ln le)) (congrArg (fun z => sheetW cI a (shT (putv T 24 i z) ln le)) (by unfold lnS; first | rw [if_pos (c := ln = 0) (by assumption)] | rw [if_neg (c := ln = 0) (by assumption), if_pos (c := ln = 1) (by assumption)] | rw [if_neg (c := ln = 0) (by assumption), if_neg (c := ln = 1) (by assumption)])) ?_
      exact g_vret hE hQ dX2_write_34 () rfl rfl trivial
    · refine g_iload_n hE dX2_write_25 2 rfl ?_
      refine g_i2s hE dX2_write_26 ?_
      refine g_goto hE 31 dX2_write_27 (by decide) ?_
      refine g_callSN hE (c_X4_put cI cS (a 1) 24 T i (Int16.toInt32 (Int32.toInt16 v)) (by decide)) mk_X4_put st_X4_put nl_X2_32 dX2_write_31 (As := [.ref (a 1), .int i, .int (Int16.toInt32 (Int32.toInt16 v))]) (rest := []) rfl rfl (by decide) (by decide) (Nat.le_of_ble_eq_true rfl) (by decide) (by decide) [1] rfl (by decide) (fun u => Nat.le_of_ble_eq_true rfl) (ws' := fun u => sheetW cI a (shT u ln le)) (fun u => rfl) (fun u hu => ?_)
      obtain ⟨f_6, rfl⟩ : ∃ z, z = u := ⟨_, rfl⟩
      have h7 : f_6 = putv T 24 i (Int16.toInt32 (Int32.toInt16 v)) := hu
      have h8 : f_6 = (putv T 24 i (Int16.toInt32 (Int32.toInt16 v))) := h7
      subst h8
      show Go E Q 3 0 0 34 [(0, .ref (a 0)), (1, .int i), (2, .int v)] [] (sheetW cI a (shT (putv T 24 i (Int16.toInt32 (Int32.toInt16 v))) ln le))
      refine g_world (sheetW cI a (shT (putv T 24 i (lnS ln v)) ln le)) (congrArg (fun z => sheetW cI a (shT (putv T 24 i z) ln le)) (by unfold lnS; first | rw [if_pos (c := ln = 0) (by assumption)] | rw [if_neg (c := ln = 0) (by assumption), if_pos (c := ln = 1) (by assumption)] | rw [if_neg (c := ln = 0) (by assumption), if_neg (c := ln = 1) (by assumption)])) ?_
      exact g_vret hE hQ dX2_write_34 () rfl rfl trivial
  · refine g_iload_n hE dX2_write_12 2 rfl ?_
    refine g_i2b hE dX2_write_13 ?_
    refine g_goto hE 31 dX2_write_14 (by decide) ?_
    refine g_callSN hE (c_X4_put cI cS (a 1) 24 T i (Int8.toInt32 (Int32.toInt8 v)) (by decide)) mk_X4_put st_X4_put nl_X2_32 dX2_write_31 (As := [.ref (a 1), .int i, .int (Int8.toInt32 (Int32.toInt8 v))]) (rest := []) rfl rfl (by decide) (by decide) (Nat.le_of_ble_eq_true rfl) (by decide) (by decide) [1] rfl (by decide) (fun u => Nat.le_of_ble_eq_true rfl) (ws' := fun u => sheetW cI a (shT u ln le)) (fun u => rfl) (fun u hu => ?_)
    obtain ⟨f_9, rfl⟩ : ∃ z, z = u := ⟨_, rfl⟩
    have h10 : f_9 = putv T 24 i (Int8.toInt32 (Int32.toInt8 v)) := hu
    have h11 : f_9 = (putv T 24 i (Int8.toInt32 (Int32.toInt8 v))) := h10
    subst h11
    show Go E Q 3 0 0 34 [(0, .ref (a 0)), (1, .int i), (2, .int v)] [] (sheetW cI a (shT (putv T 24 i (Int8.toInt32 (Int32.toInt8 v))) ln le))
    refine g_world (sheetW cI a (shT (putv T 24 i (lnS ln v)) ln le)) (congrArg (fun z => sheetW cI a (shT (putv T 24 i z) ln le)) (by unfold lnS; first | rw [if_pos (c := ln = 0) (by assumption)] | rw [if_neg (c := ln = 0) (by assumption), if_pos (c := ln = 1) (by assumption)] | rw [if_neg (c := ln = 0) (by assumption), if_neg (c := ln = 1) (by assumption)])) ?_
    exact g_vret hE hQ dX2_write_34 () rfl rfl trivial
set_option maxHeartbeats 4000000 in
set_option maxRecDepth 100000 in
theorem c_X2_renew (cI cS : ClassId) (a : Nat → Nat) (T : Nat → Int32) (ln le : Int32) (l k : Int32) : CT cI cS yX2_renew cX2_renew 4 none 1 [.ref (a 0), .int l, .int k] (sheetW cI a (shT T ln le)) 0 0 (fun u : Unit => True) (fun u => none) (fun u => (sheetW cI a (shT (fun _ => 0) l (if 24 < k then 24 else k)))) := by
  refine ct_intro (by decide) (Nat.le_of_ble_eq_true rfl) (fun E Q hE hQ hI => ?_)
  have hE : CxOk E cI cS RX2 cX2_renew 4 none 1 0 0 := hE
  show Go E Q 4 0 0 0 [(0, .ref (a 0)), (1, .int l), (2, .int k)] [] (sheetW cI a (shT T ln le))
  refine g_aload_n hE dX2_renew_0 0 rfl ?_
  refine g_iload_n hE dX2_renew_1 1 rfl ?_
  refine g_put hE fl_X2_15 fp_2_1 dX2_renew_2 0 rfl rfl rfl (Nat.le_of_ble_eq_true rfl) (sheetW cI a (shT T l le)) (by rfl) ?_
  refine g_aload_n hE dX2_renew_5 0 rfl ?_
  refine g_iload_n hE dX2_renew_6 2 rfl ?_
  refine g_aload_n hE dX2_renew_7 0 rfl ?_
  refine g_get hE fl_X2_9 dX2_renew_8 0 rfl rfl ?_
  refine g_alen hE dX2_renew_11 1 24 rfl rfl ?_
  refine g_min hE (by decide) (by decide) (by decide) ml_X2_19 mi_st mi_in mi_co dX2_renew_12 (Nat.le_of_ble_eq_true rfl) ?_
  refine g_put hE fl_X2_25 fp_2_2 dX2_renew_15 0 rfl rfl rfl (Nat.le_of_ble_eq_true rfl) (sheetW cI a (shT T l (if 24 < k then 24 else k))) (by rfl) ?_
  refine g_iconst hE dX2_renew_18 0 (by decide) ?_
  refine g_istore_n hE dX2_renew_19 [(3, .int 0), (0, .ref (a 0)), (1, .int l), (2, .int k)] rfl (by decide) rfl ?_
  have L20 : ∀ (n_20 : Nat) (i : Nat) (h : Nat → Int32), (i ≤ 24) → (∀ j, j < i → h j = 0) → (24 - i < n_20) → Go E Q 4 0 0 20 [(0, .ref (a 0)), (1, .int l), (2, .int k), (3, .int (nI i))] [] (sheetW cI a (shT h l (if 24 < k then 24 else k))) := by
    intro n_20
    induction n_20 with
    | zero => intro i h hi hh hm_20; exact absurd hm_20 (Nat.not_lt_zero _)
    | succ n_20 ih_20 =>
      intro i h hi hh hm_20
      refine g_iload_n hE dX2_renew_20 3 rfl ?_
      refine g_aload_n hE dX2_renew_21 0 rfl ?_
      refine g_get hE fl_X2_9 dX2_renew_22 0 rfl rfl ?_
      refine g_alen hE dX2_renew_25 1 24 rfl rfl ?_
      refine g_icmp_ge hE 42 dX2_renew_26 (by decide) (fun c1 => ?_) (fun c1 => ?_)
      · have kc1 := nat_le_t (show 24 = nI 24 from rfl) (show (nI i) = nI i from rfl) (by omega) (by omega) c1
        refine g_arr_eq 1 (f := h) (g := fun _ => 0) rfl (fun j hj => hh j (by omega)) _ rfl ?_
        exact g_vret hE hQ dX2_renew_42 () rfl rfl trivial
      · have kc1 := nat_le_f (show 24 = nI 24 from rfl) (show (nI i) = nI i from rfl) (by omega) (by omega) c1
        refine g_aload_n hE dX2_renew_29 0 rfl ?_
        refine g_get hE fl_X2_9 dX2_renew_30 0 rfl rfl ?_
        refine g_iload_n hE dX2_renew_33 3 rfl ?_
        refine g_iconst hE dX2_renew_34 0 (by decide) ?_
        refine g_iast_n hE dX2_renew_35 1 rfl (show (nI i) = nI i from rfl) (by omega) (sheetW cI a (shT (upd h i 0) l (if 24 < k then 24 else k))) rfl ?_
        refine g_iinc hE dX2_renew_36 3 (nI (i + 1)) [(3, .int (nI (i + 1))), (0, .ref (a 0)), (1, .int l), (2, .int k)] rfl (nI_1 _) (by decide) rfl ?_
        refine g_goto hE 20 dX2_renew_39 (by decide) ?_
        refine g_locals [1, 2, 3, 0] [(0, .ref (a 0)), (1, .int l), (2, .int k), (3, .int (nI (i + 1)))] rfl ?_
        exact ih_20 (i + 1) (upd h i 0) (by first | assumption | omega) (upd_pre (f := fun _ => 0) hh rfl) (by omega)
  refine g_locals [1, 2, 3, 0] [(0, .ref (a 0)), (1, .int l), (2, .int k), (3, .int 0)] rfl ?_
  exact L20 _ 0 T (Nat.zero_le _) (fun j hj => absurd hj (Nat.not_lt_zero _)) (Nat.lt_succ_self _)
end
