-- ===== PART A: goes FIRST, ahead of the names: the tables' words, and 'selects' of the private methods out of them =====
/-- a private method of a class that the tables say can be made, by its rows of tables_1 -/
def lw_okq (q : MethodName × Nat) : Prop := (q.1.cls ≠ "java/lang/invoke/MethodHandle" ∧ q.1.cls ≠ "java/lang/invoke/VarHandle") ∧ Cond.instantiable q.1.cls q.2 ∈ tables_1 ∧ Cond.privateMethod q.1 ∈ tables_1 ∧ Cond.instanceMethod q.1 ∈ tables_1
theorem lw_p0 : lw_okq (⟨"SieveLoft", "sameHeaps", "()Z"⟩, 7) := ⟨⟨by decide +kernel, by decide +kernel⟩, List.mem_of_getElem? (i := 11) (by decide +kernel), List.mem_of_getElem? (i := 417) (by decide +kernel), List.mem_of_getElem? (i := 418) (by decide +kernel)⟩
theorem lw_p1 : lw_okq (⟨"SieveLoft", "seekBest", "(I)V"⟩, 7) := ⟨⟨by decide +kernel, by decide +kernel⟩, List.mem_of_getElem? (i := 11) (by decide +kernel), List.mem_of_getElem? (i := 425) (by decide +kernel), List.mem_of_getElem? (i := 426) (by decide +kernel)⟩
theorem lw_p2 : lw_okq (⟨"SieveLoft", "sheetAt", "(I)LSieveLoft$Sheet;"⟩, 7) := ⟨⟨by decide +kernel, by decide +kernel⟩, List.mem_of_getElem? (i := 11) (by decide +kernel), List.mem_of_getElem? (i := 493) (by decide +kernel), List.mem_of_getElem? (i := 494) (by decide +kernel)⟩
theorem lw_p3 : lw_okq (⟨"SieveLoftModel", "addGrain", "(III)V"⟩, 32) := ⟨⟨by decide +kernel, by decide +kernel⟩, List.mem_of_getElem? (i := 551) (by decide +kernel), List.mem_of_getElem? (i := 664) (by decide +kernel), List.mem_of_getElem? (i := 665) (by decide +kernel)⟩
theorem lw_p4 : lw_okq (⟨"SieveLoftModel", "isGrain", "(I)Z"⟩, 32) := ⟨⟨by decide +kernel, by decide +kernel⟩, List.mem_of_getElem? (i := 551) (by decide +kernel), List.mem_of_getElem? (i := 672) (by decide +kernel), List.mem_of_getElem? (i := 673) (by decide +kernel)⟩
theorem lw_p5 : lw_okq (⟨"SieveLoftModel", "addSieve", "(IIII)V"⟩, 32) := ⟨⟨by decide +kernel, by decide +kernel⟩, List.mem_of_getElem? (i := 551) (by decide +kernel), List.mem_of_getElem? (i := 683) (by decide +kernel), List.mem_of_getElem? (i := 684) (by decide +kernel)⟩
theorem lw_p6 : lw_okq (⟨"SieveLoftModel", "isSieve", "(I)Z"⟩, 32) := ⟨⟨by decide +kernel, by decide +kernel⟩, List.mem_of_getElem? (i := 551) (by decide +kernel), List.mem_of_getElem? (i := 691) (by decide +kernel), List.mem_of_getElem? (i := 692) (by decide +kernel)⟩
theorem lw_p7 : lw_okq (⟨"SieveLoftModel", "readAll", "(IZ)Z"⟩, 32) := ⟨⟨by decide +kernel, by decide +kernel⟩, List.mem_of_getElem? (i := 551) (by decide +kernel), List.mem_of_getElem? (i := 715) (by decide +kernel), List.mem_of_getElem? (i := 716) (by decide +kernel)⟩
theorem lw_p8 : lw_okq (⟨"SieveLoftModel", "readSieve", "(I)Z"⟩, 32) := ⟨⟨by decide +kernel, by decide +kernel⟩, List.mem_of_getElem? (i := 551) (by decide +kernel), List.mem_of_getElem? (i := 719) (by decide +kernel), List.mem_of_getElem? (i := 720) (by decide +kernel)⟩
theorem lw_p9 : lw_okq (⟨"SieveLoftModel", "nextByte", "()I"⟩, 32) := ⟨⟨by decide +kernel, by decide +kernel⟩, List.mem_of_getElem? (i := 551) (by decide +kernel), List.mem_of_getElem? (i := 723) (by decide +kernel), List.mem_of_getElem? (i := 724) (by decide +kernel)⟩
theorem lw_p10 : lw_okq (⟨"SieveLoftModel", "readNumber", "(II)I"⟩, 32) := ⟨⟨by decide +kernel, by decide +kernel⟩, List.mem_of_getElem? (i := 551) (by decide +kernel), List.mem_of_getElem? (i := 727) (by decide +kernel), List.mem_of_getElem? (i := 728) (by decide +kernel)⟩
theorem lw_p11 : lw_okq (⟨"SieveLoftModel", "takes", "(I)Z"⟩, 32) := ⟨⟨by decide +kernel, by decide +kernel⟩, List.mem_of_getElem? (i := 551) (by decide +kernel), List.mem_of_getElem? (i := 734) (by decide +kernel), List.mem_of_getElem? (i := 735) (by decide +kernel)⟩
theorem lw_p12 : lw_okq (⟨"SieveLoftModel", "readGrain", "(I)Z"⟩, 32) := ⟨⟨by decide +kernel, by decide +kernel⟩, List.mem_of_getElem? (i := 551) (by decide +kernel), List.mem_of_getElem? (i := 739) (by decide +kernel), List.mem_of_getElem? (i := 740) (by decide +kernel)⟩
theorem lw_p13 : lw_okq (⟨"SieveLoftModel", "end", "(Z)I"⟩, 32) := ⟨⟨by decide +kernel, by decide +kernel⟩, List.mem_of_getElem? (i := 551) (by decide +kernel), List.mem_of_getElem? (i := 743) (by decide +kernel), List.mem_of_getElem? (i := 744) (by decide +kernel)⟩
theorem lw_p14 : lw_okq (⟨"SieveLoftModel", "readRow", "()Z"⟩, 32) := ⟨⟨by decide +kernel, by decide +kernel⟩, List.mem_of_getElem? (i := 551) (by decide +kernel), List.mem_of_getElem? (i := 755) (by decide +kernel), List.mem_of_getElem? (i := 756) (by decide +kernel)⟩
theorem lw_p15 : lw_okq (⟨"SieveLoftModel", "tryNow", "()V"⟩, 32) := ⟨⟨by decide +kernel, by decide +kernel⟩, List.mem_of_getElem? (i := 551) (by decide +kernel), List.mem_of_getElem? (i := 766) (by decide +kernel), List.mem_of_getElem? (i := 767) (by decide +kernel)⟩
def lw_privs_1 : List (MethodName × Nat) := [(⟨"SieveLoft", "sameHeaps", "()Z"⟩, 7), (⟨"SieveLoft", "seekBest", "(I)V"⟩, 7), (⟨"SieveLoft", "sheetAt", "(I)LSieveLoft$Sheet;"⟩, 7), (⟨"SieveLoftModel", "addGrain", "(III)V"⟩, 32), (⟨"SieveLoftModel", "isGrain", "(I)Z"⟩, 32), (⟨"SieveLoftModel", "addSieve", "(IIII)V"⟩, 32), (⟨"SieveLoftModel", "isSieve", "(I)Z"⟩, 32), (⟨"SieveLoftModel", "readAll", "(IZ)Z"⟩, 32), (⟨"SieveLoftModel", "readSieve", "(I)Z"⟩, 32), (⟨"SieveLoftModel", "nextByte", "()I"⟩, 32), (⟨"SieveLoftModel", "readNumber", "(II)I"⟩, 32), (⟨"SieveLoftModel", "takes", "(I)Z"⟩, 32), (⟨"SieveLoftModel", "readGrain", "(I)Z"⟩, 32), (⟨"SieveLoftModel", "end", "(Z)I"⟩, 32), (⟨"SieveLoftModel", "readRow", "()Z"⟩, 32), (⟨"SieveLoftModel", "tryNow", "()V"⟩, 32)]
theorem lw_r1 : ∀ q ∈ lw_privs_1, lw_okq q := List.forall_mem_cons.mpr ⟨lw_p0, List.forall_mem_cons.mpr ⟨lw_p1, List.forall_mem_cons.mpr ⟨lw_p2, List.forall_mem_cons.mpr ⟨lw_p3, List.forall_mem_cons.mpr ⟨lw_p4, List.forall_mem_cons.mpr ⟨lw_p5, List.forall_mem_cons.mpr ⟨lw_p6, List.forall_mem_cons.mpr ⟨lw_p7, List.forall_mem_cons.mpr ⟨lw_p8, List.forall_mem_cons.mpr ⟨lw_p9, List.forall_mem_cons.mpr ⟨lw_p10, List.forall_mem_cons.mpr ⟨lw_p11, List.forall_mem_cons.mpr ⟨lw_p12, List.forall_mem_cons.mpr ⟨lw_p13, List.forall_mem_cons.mpr ⟨lw_p14, List.forall_mem_cons.mpr ⟨lw_p15, fun _ h => absurd h List.not_mem_nil⟩⟩⟩⟩⟩⟩⟩⟩⟩⟩⟩⟩⟩⟩⟩⟩
theorem lw_p16 : lw_okq (⟨"SieveLoftModel", "begin", "()V"⟩, 32) := ⟨⟨by decide +kernel, by decide +kernel⟩, List.mem_of_getElem? (i := 551) (by decide +kernel), List.mem_of_getElem? (i := 770) (by decide +kernel), List.mem_of_getElem? (i := 771) (by decide +kernel)⟩
theorem lw_p17 : lw_okq (⟨"SieveLoftModel", "takeRow", "()V"⟩, 32) := ⟨⟨by decide +kernel, by decide +kernel⟩, List.mem_of_getElem? (i := 551) (by decide +kernel), List.mem_of_getElem? (i := 774) (by decide +kernel), List.mem_of_getElem? (i := 775) (by decide +kernel)⟩
theorem lw_p18 : lw_okq (⟨"SieveLoftModel", "shakeOnce", "()V"⟩, 32) := ⟨⟨by decide +kernel, by decide +kernel⟩, List.mem_of_getElem? (i := 551) (by decide +kernel), List.mem_of_getElem? (i := 778) (by decide +kernel), List.mem_of_getElem? (i := 779) (by decide +kernel)⟩
theorem lw_p19 : lw_okq (⟨"SieveLoftModel", "passes", "(II)Z"⟩, 32) := ⟨⟨by decide +kernel, by decide +kernel⟩, List.mem_of_getElem? (i := 551) (by decide +kernel), List.mem_of_getElem? (i := 782) (by decide +kernel), List.mem_of_getElem? (i := 783) (by decide +kernel)⟩
theorem lw_p20 : lw_okq (⟨"SieveLoftModel", "grainsIn", "(I)I"⟩, 32) := ⟨⟨by decide +kernel, by decide +kernel⟩, List.mem_of_getElem? (i := 551) (by decide +kernel), List.mem_of_getElem? (i := 786) (by decide +kernel), List.mem_of_getElem? (i := 787) (by decide +kernel)⟩
theorem lw_p21 : lw_okq (⟨"SieveLoftModel", "amountIn", "(I)I"⟩, 32) := ⟨⟨by decide +kernel, by decide +kernel⟩, List.mem_of_getElem? (i := 551) (by decide +kernel), List.mem_of_getElem? (i := 790) (by decide +kernel), List.mem_of_getElem? (i := 791) (by decide +kernel)⟩
theorem lw_p22 : lw_okq (⟨"SieveLoftModel", "valueIn", "(I)I"⟩, 32) := ⟨⟨by decide +kernel, by decide +kernel⟩, List.mem_of_getElem? (i := 551) (by decide +kernel), List.mem_of_getElem? (i := 794) (by decide +kernel), List.mem_of_getElem? (i := 795) (by decide +kernel)⟩
theorem lw_p23 : lw_okq (⟨"SieveLoftModel", "valueOf", "()I"⟩, 32) := ⟨⟨by decide +kernel, by decide +kernel⟩, List.mem_of_getElem? (i := 551) (by decide +kernel), List.mem_of_getElem? (i := 810) (by decide +kernel), List.mem_of_getElem? (i := 811) (by decide +kernel)⟩
theorem lw_p24 : lw_okq (⟨"SieveLoftModel", "keep", "()V"⟩, 32) := ⟨⟨by decide +kernel, by decide +kernel⟩, List.mem_of_getElem? (i := 551) (by decide +kernel), List.mem_of_getElem? (i := 814) (by decide +kernel), List.mem_of_getElem? (i := 815) (by decide +kernel)⟩
theorem lw_p25 : lw_okq (⟨"SieveLoftModel", "wearOut", "()V"⟩, 32) := ⟨⟨by decide +kernel, by decide +kernel⟩, List.mem_of_getElem? (i := 551) (by decide +kernel), List.mem_of_getElem? (i := 818) (by decide +kernel), List.mem_of_getElem? (i := 819) (by decide +kernel)⟩
theorem lw_p26 : lw_okq (⟨"SieveLoftModel", "findBest", "(IZ)V"⟩, 32) := ⟨⟨by decide +kernel, by decide +kernel⟩, List.mem_of_getElem? (i := 551) (by decide +kernel), List.mem_of_getElem? (i := 833) (by decide +kernel), List.mem_of_getElem? (i := 834) (by decide +kernel)⟩
theorem lw_p27 : lw_okq (⟨"SieveLoftModel", "isRow", "()Z"⟩, 32) := ⟨⟨by decide +kernel, by decide +kernel⟩, List.mem_of_getElem? (i := 551) (by decide +kernel), List.mem_of_getElem? (i := 837) (by decide +kernel), List.mem_of_getElem? (i := 838) (by decide +kernel)⟩
theorem lw_p28 : lw_okq (⟨"SieveLoftModel", "areParted", "()Z"⟩, 32) := ⟨⟨by decide +kernel, by decide +kernel⟩, List.mem_of_getElem? (i := 551) (by decide +kernel), List.mem_of_getElem? (i := 841) (by decide +kernel), List.mem_of_getElem? (i := 842) (by decide +kernel)⟩
theorem lw_p29 : lw_okq (⟨"SieveLoftModel", "takeBest", "(I)V"⟩, 32) := ⟨⟨by decide +kernel, by decide +kernel⟩, List.mem_of_getElem? (i := 551) (by decide +kernel), List.mem_of_getElem? (i := 845) (by decide +kernel), List.mem_of_getElem? (i := 846) (by decide +kernel)⟩
theorem lw_p30 : lw_okq (⟨"SieveLoftModel", "nextRow", "()Z"⟩, 32) := ⟨⟨by decide +kernel, by decide +kernel⟩, List.mem_of_getElem? (i := 551) (by decide +kernel), List.mem_of_getElem? (i := 849) (by decide +kernel), List.mem_of_getElem? (i := 850) (by decide +kernel)⟩
theorem lw_p31 : lw_okq (⟨"SieveLoftModel", "carried", "(IIZ)I"⟩, 32) := ⟨⟨by decide +kernel, by decide +kernel⟩, List.mem_of_getElem? (i := 551) (by decide +kernel), List.mem_of_getElem? (i := 877) (by decide +kernel), List.mem_of_getElem? (i := 878) (by decide +kernel)⟩
def lw_privs_2 : List (MethodName × Nat) := [(⟨"SieveLoftModel", "begin", "()V"⟩, 32), (⟨"SieveLoftModel", "takeRow", "()V"⟩, 32), (⟨"SieveLoftModel", "shakeOnce", "()V"⟩, 32), (⟨"SieveLoftModel", "passes", "(II)Z"⟩, 32), (⟨"SieveLoftModel", "grainsIn", "(I)I"⟩, 32), (⟨"SieveLoftModel", "amountIn", "(I)I"⟩, 32), (⟨"SieveLoftModel", "valueIn", "(I)I"⟩, 32), (⟨"SieveLoftModel", "valueOf", "()I"⟩, 32), (⟨"SieveLoftModel", "keep", "()V"⟩, 32), (⟨"SieveLoftModel", "wearOut", "()V"⟩, 32), (⟨"SieveLoftModel", "findBest", "(IZ)V"⟩, 32), (⟨"SieveLoftModel", "isRow", "()Z"⟩, 32), (⟨"SieveLoftModel", "areParted", "()Z"⟩, 32), (⟨"SieveLoftModel", "takeBest", "(I)V"⟩, 32), (⟨"SieveLoftModel", "nextRow", "()Z"⟩, 32), (⟨"SieveLoftModel", "carried", "(IIZ)I"⟩, 32)]
theorem lw_r2 : ∀ q ∈ lw_privs_2, lw_okq q := List.forall_mem_cons.mpr ⟨lw_p16, List.forall_mem_cons.mpr ⟨lw_p17, List.forall_mem_cons.mpr ⟨lw_p18, List.forall_mem_cons.mpr ⟨lw_p19, List.forall_mem_cons.mpr ⟨lw_p20, List.forall_mem_cons.mpr ⟨lw_p21, List.forall_mem_cons.mpr ⟨lw_p22, List.forall_mem_cons.mpr ⟨lw_p23, List.forall_mem_cons.mpr ⟨lw_p24, List.forall_mem_cons.mpr ⟨lw_p25, List.forall_mem_cons.mpr ⟨lw_p26, List.forall_mem_cons.mpr ⟨lw_p27, List.forall_mem_cons.mpr ⟨lw_p28, List.forall_mem_cons.mpr ⟨lw_p29, List.forall_mem_cons.mpr ⟨lw_p30, List.forall_mem_cons.mpr ⟨lw_p31, fun _ h => absurd h List.not_mem_nil⟩⟩⟩⟩⟩⟩⟩⟩⟩⟩⟩⟩⟩⟩⟩⟩
theorem lw_p32 : lw_okq (⟨"SieveLoftModel", "lacksRow", "(IIII)I"⟩, 32) := ⟨⟨by decide +kernel, by decide +kernel⟩, List.mem_of_getElem? (i := 551) (by decide +kernel), List.mem_of_getElem? (i := 900) (by decide +kernel), List.mem_of_getElem? (i := 901) (by decide +kernel)⟩
theorem lw_p33 : lw_okq (⟨"SieveLoftModel", "areFound", "(I)Z"⟩, 32) := ⟨⟨by decide +kernel, by decide +kernel⟩, List.mem_of_getElem? (i := 551) (by decide +kernel), List.mem_of_getElem? (i := 911) (by decide +kernel), List.mem_of_getElem? (i := 912) (by decide +kernel)⟩
def lw_privs_3 : List (MethodName × Nat) := [(⟨"SieveLoftModel", "lacksRow", "(IIII)I"⟩, 32), (⟨"SieveLoftModel", "areFound", "(I)Z"⟩, 32)]
theorem lw_r3 : ∀ q ∈ lw_privs_3, lw_okq q := List.forall_mem_cons.mpr ⟨lw_p32, List.forall_mem_cons.mpr ⟨lw_p33, fun _ h => absurd h List.not_mem_nil⟩⟩
def lw_privs : List (MethodName × Nat) := lw_privs_1 ++ (lw_privs_2 ++ (lw_privs_3))
def lw_tbl : List Cond := k2_sels lw_privs ++ tables_1
theorem lw_privs_ok : ∀ q ∈ lw_privs, lw_okq q := by
  show ∀ q ∈ lw_privs_1 ++ (lw_privs_2 ++ (lw_privs_3)), lw_okq q
  exact List.forall_mem_append.mpr ⟨lw_r1, List.forall_mem_append.mpr ⟨lw_r2, lw_r3⟩⟩
-- ===== end of PART A; then your names; then what follows =====
def RX0 : String := "SieveLoft$Mill"
def TX0 : u_T := fun k => match k with
  | 0 => ("SieveLoft$Mill", "grains", "I", false)
  | 1 => ("SieveLoft$Mill", "sieves", "I", false)
  | 2 => ("SieveLoft$Mill", "places", "I", false)
  | 3 => ("SieveLoft$Mill", "shakings", "I", false)
  | 4 => ("SieveLoft$Mill", "size", "[I", true)
  | 5 => ("SieveLoft$Mill", "amount", "[I", true)
  | 6 => ("SieveLoft$Mill", "price", "[I", true)
  | 7 => ("SieveLoft$Mill", "kind", "[I", true)
  | 8 => ("SieveLoft$Mill", "mesh", "[I", true)
  | 9 => ("SieveLoft$Mill", "holds", "[I", true)
  | 10 => ("SieveLoft$Mill", "wear", "[I", true)
  | 11 => ("SieveLoft$Mill", "row", "[I", true)
  | _ => ("SieveLoft$Mill", "heaps", "[I", true)
def tyX0 : Nat → FieldType := fun k => match k with
  | 0 => .int
  | 1 => .int
  | 2 => .int
  | 3 => .int
  | 4 => .array .int
  | 5 => .array .int
  | 6 => .array .int
  | 7 => .array .int
  | 8 => .array .int
  | 9 => .array .int
  | 10 => .array .int
  | 11 => .array .int
  | _ => .array .int
abbrev wsX00 : List Cond := u_ws RX0 TX0 13
theorem nmX0 : ∀ a, a < 13 → ∀ b, b < 13 → a ≠ b → (TX0 a).2.1 ≠ (TX0 b).2.1 := by decide +kernel
theorem tyX0_ok : ∀ k, k < 13 → parseFieldDescriptor (TX0 k).2.2.1 = some (tyX0 k) := by decide +kernel
abbrev cX0_init : ByteArray := prog_2_method_1_code
def yX0_init : MethodName := ⟨RX0, "<init>", "()V"⟩
abbrev cX0_hasGrain : ByteArray := prog_2_method_2_code
def yX0_hasGrain : MethodName := ⟨RX0, "hasGrain", "(I)Z"⟩
abbrev cX0_hasSieve : ByteArray := prog_2_method_3_code
def yX0_hasSieve : MethodName := ⟨RX0, "hasSieve", "(I)Z"⟩
abbrev cX0_hasHeap : ByteArray := prog_2_method_4_code
def yX0_hasHeap : MethodName := ⟨RX0, "hasHeap", "(I)Z"⟩
abbrev cX0_isInRow : ByteArray := prog_2_method_5_code
def yX0_isInRow : MethodName := ⟨RX0, "isInRow", "(I)Z"⟩
abbrev cX0_addGrain : ByteArray := prog_2_method_6_code
def yX0_addGrain : MethodName := ⟨RX0, "addGrain", "(III)I"⟩
abbrev cX0_addSieve : ByteArray := prog_2_method_7_code
def yX0_addSieve : MethodName := ⟨RX0, "addSieve", "(IIII)I"⟩
abbrev cX0_addPlace : ByteArray := prog_2_method_8_code
def yX0_addPlace : MethodName := ⟨RX0, "addPlace", "(I)V"⟩
abbrev cX0_takeGrains : ByteArray := prog_2_method_9_code
def yX0_takeGrains : MethodName := ⟨RX0, "takeGrains", "(LSieveLoft$Mill;)V"⟩
abbrev cX0_takeSieves : ByteArray := prog_2_method_10_code
def yX0_takeSieves : MethodName := ⟨RX0, "takeSieves", "(LSieveLoft$Mill;)V"⟩
abbrev cX0_takeRow : ByteArray := prog_2_method_11_code
def yX0_takeRow : MethodName := ⟨RX0, "takeRow", "(LSieveLoft$Mill;)V"⟩
abbrev cX0_takeAll : ByteArray := prog_2_method_12_code
def yX0_takeAll : MethodName := ⟨RX0, "takeAll", "(LSieveLoft$Mill;)V"⟩
abbrev cX0_load : ByteArray := prog_2_method_13_code
def yX0_load : MethodName := ⟨RX0, "load", "()I"⟩
abbrev cX0_amountOf : ByteArray := prog_2_method_14_code
def yX0_amountOf : MethodName := ⟨RX0, "amountOf", "(I)I"⟩
abbrev cX0_worth : ByteArray := prog_2_method_15_code
def yX0_worth : MethodName := ⟨RX0, "worth", "(I)I"⟩
abbrev cX0_letsFall : ByteArray := prog_2_method_16_code
def yX0_letsFall : MethodName := ⟨RX0, "letsFall", "(II)Z"⟩
abbrev cX0_tooBig : ByteArray := prog_2_method_17_code
def yX0_tooBig : MethodName := ⟨RX0, "tooBig", "(II)I"⟩
abbrev cX0_isTooMuch : ByteArray := prog_2_method_18_code
def yX0_isTooMuch : MethodName := ⟨RX0, "isTooMuch", "(II)Z"⟩
abbrev cX0_falling : ByteArray := prog_2_method_19_code
def yX0_falling : MethodName := ⟨RX0, "falling", "(II)I"⟩
abbrev cX0_spread : ByteArray := prog_2_method_20_code
def yX0_spread : MethodName := ⟨RX0, "spread", "()V"⟩
abbrev cX0_heapOf : ByteArray := prog_2_method_21_code
def yX0_heapOf : MethodName := ⟨RX0, "heapOf", "(I)I"⟩
abbrev cX0_heapOfSize : ByteArray := prog_2_method_22_code
def yX0_heapOfSize : MethodName := ⟨RX0, "heapOfSize", "(I)I"⟩
abbrev cX0_shakeThrough : ByteArray := prog_2_method_23_code
def yX0_shakeThrough : MethodName := ⟨RX0, "shakeThrough", "([II)I"⟩
abbrev cX0_widen : ByteArray := prog_2_method_24_code
def yX0_widen : MethodName := ⟨RX0, "widen", "(I)V"⟩
def RX1 : String := "SieveLoft$Search"
def TX1 : u_T := fun k => match k with
  | 0 => ("SieveLoft$Search", "tried", "[I", true)
  | 1 => ("SieveLoft$Search", "chosen", "[I", true)
  | 2 => ("SieveLoft$Search", "limit", "I", false)
  | 3 => ("SieveLoft$Search", "apart", "I", false)
  | 4 => ("SieveLoft$Search", "value", "I", false)
  | _ => ("SieveLoft$Search", "length", "I", false)
def tyX1 : Nat → FieldType := fun k => match k with
  | 0 => .array .int
  | 1 => .array .int
  | 2 => .int
  | 3 => .int
  | 4 => .int
  | _ => .int
abbrev wsX10 : List Cond := u_ws RX1 TX1 6
theorem nmX1 : ∀ a, a < 6 → ∀ b, b < 6 → a ≠ b → (TX1 a).2.1 ≠ (TX1 b).2.1 := by decide +kernel
theorem tyX1_ok : ∀ k, k < 6 → parseFieldDescriptor (TX1 k).2.2.1 = some (tyX1 k) := by decide +kernel
abbrev cX1_init : ByteArray := prog_3_method_1_code
def yX1_init : MethodName := ⟨RX1, "<init>", "()V"⟩
abbrev cX1_begin : ByteArray := prog_3_method_2_code
def yX1_begin : MethodName := ⟨RX1, "begin", "(II)V"⟩
abbrev cX1_choose : ByteArray := prog_3_method_3_code
def yX1_choose : MethodName := ⟨RX1, "choose", "(II)V"⟩
abbrev cX1_mixes : ByteArray := prog_3_method_4_code
def yX1_mixes : MethodName := ⟨RX1, "mixes", "(I)Z"⟩
abbrev cX1_chosenAt : ByteArray := prog_3_method_5_code
def yX1_chosenAt : MethodName := ⟨RX1, "chosenAt", "(I)I"⟩
def RX2 : String := "SieveLoft$Sheet"
def TX2 : u_T := fun k => match k with
  | 0 => ("SieveLoft$Sheet", "items", "[I", true)
  | 1 => ("SieveLoft$Sheet", "lane", "I", false)
  | _ => ("SieveLoft$Sheet", "length", "I", false)
def tyX2 : Nat → FieldType := fun k => match k with
  | 0 => .array .int
  | 1 => .int
  | _ => .int
abbrev wsX20 : List Cond := u_ws RX2 TX2 3
theorem nmX2 : ∀ a, a < 3 → ∀ b, b < 3 → a ≠ b → (TX2 a).2.1 ≠ (TX2 b).2.1 := by decide +kernel
theorem tyX2_ok : ∀ k, k < 3 → parseFieldDescriptor (TX2 k).2.2.1 = some (tyX2 k) := by decide +kernel
abbrev cX2_init : ByteArray := prog_4_method_1_code
def yX2_init : MethodName := ⟨RX2, "<init>", "()V"⟩
abbrev cX2_renew : ByteArray := prog_4_method_2_code
def yX2_renew : MethodName := ⟨RX2, "renew", "(II)V"⟩
abbrev cX2_hasItems : ByteArray := prog_4_method_3_code
def yX2_hasItems : MethodName := ⟨RX2, "hasItems", "(II)Z"⟩
abbrev cX2_refusal : ByteArray := prog_4_method_4_code
def yX2_refusal : MethodName := ⟨RX2, "refusal", "(III)I"⟩
abbrev cX2_write : ByteArray := prog_4_method_5_code
def yX2_write : MethodName := ⟨RX2, "write", "(II)V"⟩
def RX3 : String := "SieveLoft$Tape"
def TX3 : u_T := fun k => match k with
  | 0 => ("SieveLoft$Tape", "bytes", "[I", true)
  | 1 => ("SieveLoft$Tape", "length", "I", false)
  | 2 => ("SieveLoft$Tape", "place", "I", false)
  | _ => ("SieveLoft$Tape", "fault", "I", false)
def tyX3 : Nat → FieldType := fun k => match k with
  | 0 => .array .int
  | 1 => .int
  | 2 => .int
  | _ => .int
abbrev wsX30 : List Cond := u_ws RX3 TX3 4
theorem nmX3 : ∀ a, a < 4 → ∀ b, b < 4 → a ≠ b → (TX3 a).2.1 ≠ (TX3 b).2.1 := by decide +kernel
theorem tyX3_ok : ∀ k, k < 4 → parseFieldDescriptor (TX3 k).2.2.1 = some (tyX3 k) := by decide +kernel
abbrev cX3_init : ByteArray := prog_5_method_1_code
def yX3_init : MethodName := ⟨RX3, "<init>", "()V"⟩
abbrev cX3_append : ByteArray := prog_5_method_2_code
def yX3_append : MethodName := ⟨RX3, "append", "(I)V"⟩
abbrev cX3_readLoft : ByteArray := prog_5_method_3_code
def yX3_readLoft : MethodName := ⟨RX3, "readLoft", "(LSieveLoft$Mill;)V"⟩
abbrev cX3_readHeap : ByteArray := prog_5_method_4_code
def yX3_readHeap : MethodName := ⟨RX3, "readHeap", "(LSieveLoft$Mill;)V"⟩
abbrev cX3_readRow : ByteArray := prog_5_method_5_code
def yX3_readRow : MethodName := ⟨RX3, "readRow", "(LSieveLoft$Mill;I)V"⟩
abbrev cX3_begin : ByteArray := prog_5_method_6_code
def yX3_begin : MethodName := ⟨RX3, "begin", "()V"⟩
abbrev cX3_end : ByteArray := prog_5_method_7_code
def yX3_end : MethodName := ⟨RX3, "end", "()V"⟩
abbrev cX3_answerOr : ByteArray := prog_5_method_8_code
def yX3_answerOr : MethodName := ⟨RX3, "answerOr", "(I)I"⟩
abbrev cX3_blame : ByteArray := prog_5_method_9_code
def yX3_blame : MethodName := ⟨RX3, "blame", "(I)V"⟩
abbrev cX3_next : ByteArray := prog_5_method_10_code
def yX3_next : MethodName := ⟨RX3, "next", "()I"⟩
abbrev cX3_passes : ByteArray := prog_5_method_11_code
def yX3_passes : MethodName := ⟨RX3, "passes", "(I)Z"⟩
abbrev cX3_readKind : ByteArray := prog_5_method_12_code
def yX3_readKind : MethodName := ⟨RX3, "readKind", "()I"⟩
abbrev cX3_readDigit : ByteArray := prog_5_method_13_code
def yX3_readDigit : MethodName := ⟨RX3, "readDigit", "(I)I"⟩
abbrev cX3_readNumber : ByteArray := prog_5_method_14_code
def yX3_readNumber : MethodName := ⟨RX3, "readNumber", "(II)I"⟩
def RX4 : String := "SieveLoft"
def TX4 : u_T := fun k => match k with
  | 0 => ("SieveLoft", "mill", "LSieveLoft$Mill;", true)
  | 1 => ("SieveLoft", "trial", "LSieveLoft$Mill;", true)
  | 2 => ("SieveLoft", "kept", "LSieveLoft$Mill;", true)
  | 3 => ("SieveLoft", "keeps", "Z", false)
  | 4 => ("SieveLoft", "search", "LSieveLoft$Search;", true)
  | 5 => ("SieveLoft", "tape", "LSieveLoft$Tape;", true)
  | _ => ("SieveLoft", "sheets", "[LSieveLoft$Sheet;", true)
def tyX4 : Nat → FieldType := fun k => match k with
  | 0 => .object "SieveLoft$Mill"
  | 1 => .object "SieveLoft$Mill"
  | 2 => .object "SieveLoft$Mill"
  | 3 => .boolean
  | 4 => .object "SieveLoft$Search"
  | 5 => .object "SieveLoft$Tape"
  | _ => .array (.object "SieveLoft$Sheet")
abbrev wsX40 : List Cond := u_ws RX4 TX4 7
theorem nmX4 : ∀ a, a < 7 → ∀ b, b < 7 → a ≠ b → (TX4 a).2.1 ≠ (TX4 b).2.1 := by decide +kernel
theorem tyX4_ok : ∀ k, k < 7 → parseFieldDescriptor (TX4 k).2.2.1 = some (tyX4 k) := by decide +kernel
abbrev cX4_init : ByteArray := prog_1_method_1_code
def yX4_init : MethodName := ⟨RX4, "<init>", "()V"⟩
abbrev cX4_grain : ByteArray := prog_1_method_2_code
def yX4_grain : MethodName := ⟨RX4, "grain", "(III)I"⟩
abbrev cX4_set : ByteArray := prog_1_method_3_code
def yX4_set : MethodName := ⟨RX4, "set", "(III)I"⟩
abbrev cX4_sieve : ByteArray := prog_1_method_4_code
def yX4_sieve : MethodName := ⟨RX4, "sieve", "(IIII)I"⟩
abbrev cX4_told : ByteArray := prog_1_method_5_code
def yX4_told : MethodName := ⟨RX4, "told", "(II)I"⟩
abbrev cX4_mend : ByteArray := prog_1_method_6_code
def yX4_mend : MethodName := ⟨RX4, "mend", "(II)I"⟩
abbrev cX4_type : ByteArray := prog_1_method_7_code
def yX4_type : MethodName := ⟨RX4, "type", "(JI)I"⟩
abbrev cX4_loft : ByteArray := prog_1_method_8_code
def yX4_loft : MethodName := ⟨RX4, "loft", "()I"⟩
abbrev cX4_heap : ByteArray := prog_1_method_9_code
def yX4_heap : MethodName := ⟨RX4, "heap", "()I"⟩
abbrev cX4_row : ByteArray := prog_1_method_10_code
def yX4_row : MethodName := ⟨RX4, "row", "()I"⟩
abbrev cX4_count : ByteArray := prog_1_method_11_code
def yX4_count : MethodName := ⟨RX4, "count", "(I)I"⟩
abbrev cX4_found : ByteArray := prog_1_method_12_code
def yX4_found : MethodName := ⟨RX4, "found", "(II)I"⟩
abbrev cX4_where : ByteArray := prog_1_method_13_code
def yX4_where : MethodName := ⟨RX4, "where", "(I)I"⟩
abbrev cX4_chokes : ByteArray := prog_1_method_14_code
def yX4_chokes : MethodName := ⟨RX4, "chokes", "()I"⟩
abbrev cX4_shake : ByteArray := prog_1_method_15_code
def yX4_shake : MethodName := ⟨RX4, "shake", "()I"⟩
abbrev cX4_lasts : ByteArray := prog_1_method_16_code
def yX4_lasts : MethodName := ⟨RX4, "lasts", "()I"⟩
abbrev cX4_best : ByteArray := prog_1_method_17_code
def yX4_best : MethodName := ⟨RX4, "best", "(II)I"⟩
abbrev cX4_parted : ByteArray := prog_1_method_18_code
def yX4_parted : MethodName := ⟨RX4, "parted", "(II)I"⟩
abbrev cX4_season : ByteArray := prog_1_method_19_code
def yX4_season : MethodName := ⟨RX4, "season", "(II)I"⟩
abbrev cX4_fits : ByteArray := prog_1_method_20_code
def yX4_fits : MethodName := ⟨RX4, "fits", "(I)J"⟩
abbrev cX4_shares : ByteArray := prog_1_method_21_code
def yX4_shares : MethodName := ⟨RX4, "shares", "(IIII)I"⟩
abbrev cX4_image : ByteArray := prog_1_method_22_code
def yX4_image : MethodName := ⟨RX4, "image", "()I"⟩
abbrev cX4_restore : ByteArray := prog_1_method_23_code
def yX4_restore : MethodName := ⟨RX4, "restore", "()I"⟩
abbrev cX4_meshes : ByteArray := prog_1_method_24_code
def yX4_meshes : MethodName := ⟨RX4, "meshes", "(IIII)J"⟩
abbrev cX4_torn : ByteArray := prog_1_method_25_code
def yX4_torn : MethodName := ⟨RX4, "torn", "(III)I"⟩
abbrev cX4_sheet : ByteArray := prog_1_method_26_code
def yX4_sheet : MethodName := ⟨RX4, "sheet", "(III)I"⟩
abbrev cX4_drop : ByteArray := prog_1_method_27_code
def yX4_drop : MethodName := ⟨RX4, "drop", "(I)I"⟩
abbrev cX4_item : ByteArray := prog_1_method_28_code
def yX4_item : MethodName := ⟨RX4, "item", "(IIII)I"⟩
abbrev cX4_film : ByteArray := prog_1_method_29_code
def yX4_film : MethodName := ⟨RX4, "film", "(III)I"⟩
abbrev cX4_copy : ByteArray := prog_1_method_30_code
def yX4_copy : MethodName := ⟨RX4, "copy", "(IIIII)I"⟩
abbrev cX4_within : ByteArray := prog_1_method_31_code
def yX4_within : MethodName := ⟨RX4, "within", "(III)Z"⟩
abbrev cX4_at : ByteArray := prog_1_method_32_code
def yX4_at : MethodName := ⟨RX4, "at", "([II)I"⟩
abbrev cX4_put : ByteArray := prog_1_method_33_code
def yX4_put : MethodName := ⟨RX4, "put", "([III)V"⟩
abbrev cX4_exchange : ByteArray := prog_1_method_34_code
def yX4_exchange : MethodName := ⟨RX4, "exchange", "([III)I"⟩
abbrev cX4_copyAll : ByteArray := prog_1_method_35_code
def yX4_copyAll : MethodName := ⟨RX4, "copyAll", "([I[I)V"⟩
abbrev cX4_byteOf : ByteArray := prog_1_method_36_code
def yX4_byteOf : MethodName := ⟨RX4, "byteOf", "(JI)I"⟩
abbrev cX4_isLane : ByteArray := prog_1_method_37_code
def yX4_isLane : MethodName := ⟨RX4, "isLane", "(I)Z"⟩
abbrev cX4_sheetAt : ByteArray := prog_1_method_38_code
def yX4_sheetAt : MethodName := ⟨RX4, "sheetAt", "(I)LSieveLoft$Sheet;"⟩
abbrev cX4_sameHeaps : ByteArray := prog_1_method_39_code
def yX4_sameHeaps : MethodName := ⟨RX4, "sameHeaps", "()Z"⟩
abbrev cX4_bearsOut : ByteArray := prog_1_method_40_code
def yX4_bearsOut : MethodName := ⟨RX4, "bearsOut", "(LSieveLoft$Mill;LSieveLoft$Sheet;I)Z"⟩
abbrev cX4_seekBest : ByteArray := prog_1_method_41_code
def yX4_seekBest : MethodName := ⟨RX4, "seekBest", "(I)V"⟩
abbrev cX4_tryBest : ByteArray := prog_1_method_42_code
def yX4_tryBest : MethodName := ⟨RX4, "tryBest", "(LSieveLoft$Mill;LSieveLoft$Search;III)V"⟩
abbrev cX4_tryParted : ByteArray := prog_1_method_43_code
def yX4_tryParted : MethodName := ⟨RX4, "tryParted", "(LSieveLoft$Mill;LSieveLoft$Search;II)V"⟩
def RX5 : String := "SieveLoftModel"
def TX5 : u_T := fun k => match k with
  | 0 => ("SieveLoftModel", "sizes", "[I", true)
  | 1 => ("SieveLoftModel", "amounts", "[I", true)
  | 2 => ("SieveLoftModel", "prices", "[I", true)
  | 3 => ("SieveLoftModel", "grains", "I", false)
  | 4 => ("SieveLoftModel", "z", "[I", true)
  | 5 => ("SieveLoftModel", "sieves", "I", false)
  | 6 => ("SieveLoftModel", "theRow", "[I", true)
  | 7 => ("SieveLoftModel", "rowMany", "I", false)
  | 8 => ("SieveLoftModel", "shakings", "I", false)
  | 9 => ("SieveLoftModel", "tape", "[I", true)
  | 10 => ("SieveLoftModel", "taped", "I", false)
  | 11 => ("SieveLoftModel", "place", "I", false)
  | 12 => ("SieveLoftModel", "reads", "I", false)
  | 13 => ("SieveLoftModel", "read", "[I", true)
  | 14 => ("SieveLoftModel", "tryRow", "[I", true)
  | 15 => ("SieveLoftModel", "tryMany", "I", false)
  | 16 => ("SieveLoftModel", "tryKinds", "[I", true)
  | 17 => ("SieveLoftModel", "meshes", "[I", true)
  | 18 => ("SieveLoftModel", "heaps", "[I", true)
  | 19 => ("SieveLoftModel", "choking", "I", false)
  | 20 => ("SieveLoftModel", "falling", "I", false)
  | 21 => ("SieveLoftModel", "firstHeaps", "[I", true)
  | 22 => ("SieveLoftModel", "parting", "I", false)
  | 23 => ("SieveLoftModel", "bestValue", "I", false)
  | 24 => ("SieveLoftModel", "bestMany", "I", false)
  | 25 => ("SieveLoftModel", "best", "[I", true)
  | 26 => ("SieveLoftModel", "isKept", "Z", false)
  | 27 => ("SieveLoftModel", "kept", "[I", true)
  | 28 => ("SieveLoftModel", "lanes", "[I", true)
  | 29 => ("SieveLoftModel", "rowSizes", "[I", true)
  | 30 => ("SieveLoftModel", "items", "[I", true)
  | _ => ("SieveLoftModel", "moved", "[I", true)
def tyX5 : Nat → FieldType := fun k => match k with
  | 0 => .array .int
  | 1 => .array .int
  | 2 => .array .int
  | 3 => .int
  | 4 => .array .int
  | 5 => .int
  | 6 => .array .int
  | 7 => .int
  | 8 => .int
  | 9 => .array .int
  | 10 => .int
  | 11 => .int
  | 12 => .int
  | 13 => .array .int
  | 14 => .array .int
  | 15 => .int
  | 16 => .array .int
  | 17 => .array .int
  | 18 => .array .int
  | 19 => .int
  | 20 => .int
  | 21 => .array .int
  | 22 => .int
  | 23 => .int
  | 24 => .int
  | 25 => .array .int
  | 26 => .boolean
  | 27 => .array .int
  | 28 => .array .int
  | 29 => .array .int
  | 30 => .array .int
  | _ => .array .int
abbrev wsX50 : List Cond := u_ws RX5 TX5 32
theorem nmX5 : ∀ a, a < 32 → ∀ b, b < 32 → a ≠ b → (TX5 a).2.1 ≠ (TX5 b).2.1 := by decide +kernel
theorem tyX5_ok : ∀ k, k < 32 → parseFieldDescriptor (TX5 k).2.2.1 = some (tyX5 k) := by decide +kernel
abbrev cX5_init : ByteArray := prog_7_method_1_code
def yX5_init : MethodName := ⟨RX5, "<init>", "()V"⟩
abbrev cX5_in : ByteArray := prog_7_method_2_code
def yX5_in : MethodName := ⟨RX5, "in", "(JJJ)Z"⟩
abbrev cX5_has : ByteArray := prog_7_method_3_code
def yX5_has : MethodName := ⟨RX5, "has", "(II)Z"⟩
abbrev cX5_isGrain : ByteArray := prog_7_method_4_code
def yX5_isGrain : MethodName := ⟨RX5, "isGrain", "(I)Z"⟩
abbrev cX5_isSieve : ByteArray := prog_7_method_5_code
def yX5_isSieve : MethodName := ⟨RX5, "isSieve", "(I)Z"⟩
abbrev cX5_addGrain : ByteArray := prog_7_method_6_code
def yX5_addGrain : MethodName := ⟨RX5, "addGrain", "(III)V"⟩
abbrev cX5_grain : ByteArray := prog_7_method_7_code
def yX5_grain : MethodName := ⟨RX5, "grain", "(III)I"⟩
abbrev cX5_set : ByteArray := prog_7_method_8_code
def yX5_set : MethodName := ⟨RX5, "set", "(III)I"⟩
abbrev cX5_addSieve : ByteArray := prog_7_method_9_code
def yX5_addSieve : MethodName := ⟨RX5, "addSieve", "(IIII)V"⟩
abbrev cX5_sieve : ByteArray := prog_7_method_10_code
def yX5_sieve : MethodName := ⟨RX5, "sieve", "(IIII)I"⟩
abbrev cX5_told : ByteArray := prog_7_method_11_code
def yX5_told : MethodName := ⟨RX5, "told", "(II)I"⟩
abbrev cX5_mend : ByteArray := prog_7_method_12_code
def yX5_mend : MethodName := ⟨RX5, "mend", "(II)I"⟩
abbrev cX5_count : ByteArray := prog_7_method_13_code
def yX5_count : MethodName := ⟨RX5, "count", "(I)I"⟩
abbrev cX5_type : ByteArray := prog_7_method_14_code
def yX5_type : MethodName := ⟨RX5, "type", "(JI)I"⟩
abbrev cX5_nextByte : ByteArray := prog_7_method_15_code
def yX5_nextByte : MethodName := ⟨RX5, "nextByte", "()I"⟩
abbrev cX5_takes : ByteArray := prog_7_method_16_code
def yX5_takes : MethodName := ⟨RX5, "takes", "(I)Z"⟩
abbrev cX5_readNumber : ByteArray := prog_7_method_17_code
def yX5_readNumber : MethodName := ⟨RX5, "readNumber", "(II)I"⟩
abbrev cX5_readSieve : ByteArray := prog_7_method_18_code
def yX5_readSieve : MethodName := ⟨RX5, "readSieve", "(I)Z"⟩
abbrev cX5_readGrain : ByteArray := prog_7_method_19_code
def yX5_readGrain : MethodName := ⟨RX5, "readGrain", "(I)Z"⟩
abbrev cX5_readAll : ByteArray := prog_7_method_20_code
def yX5_readAll : MethodName := ⟨RX5, "readAll", "(IZ)Z"⟩
abbrev cX5_end : ByteArray := prog_7_method_21_code
def yX5_end : MethodName := ⟨RX5, "end", "(Z)I"⟩
abbrev cX5_loft : ByteArray := prog_7_method_22_code
def yX5_loft : MethodName := ⟨RX5, "loft", "()I"⟩
abbrev cX5_heap : ByteArray := prog_7_method_23_code
def yX5_heap : MethodName := ⟨RX5, "heap", "()I"⟩
abbrev cX5_readRow : ByteArray := prog_7_method_24_code
def yX5_readRow : MethodName := ⟨RX5, "readRow", "()Z"⟩
abbrev cX5_row : ByteArray := prog_7_method_25_code
def yX5_row : MethodName := ⟨RX5, "row", "()I"⟩
abbrev cX5_begin : ByteArray := prog_7_method_26_code
def yX5_begin : MethodName := ⟨RX5, "begin", "()V"⟩
abbrev cX5_takeRow : ByteArray := prog_7_method_27_code
def yX5_takeRow : MethodName := ⟨RX5, "takeRow", "()V"⟩
abbrev cX5_passes : ByteArray := prog_7_method_28_code
def yX5_passes : MethodName := ⟨RX5, "passes", "(II)Z"⟩
abbrev cX5_shakeOnce : ByteArray := prog_7_method_29_code
def yX5_shakeOnce : MethodName := ⟨RX5, "shakeOnce", "()V"⟩
abbrev cX5_wearOut : ByteArray := prog_7_method_30_code
def yX5_wearOut : MethodName := ⟨RX5, "wearOut", "()V"⟩
abbrev cX5_grainsIn : ByteArray := prog_7_method_31_code
def yX5_grainsIn : MethodName := ⟨RX5, "grainsIn", "(I)I"⟩
abbrev cX5_amountIn : ByteArray := prog_7_method_32_code
def yX5_amountIn : MethodName := ⟨RX5, "amountIn", "(I)I"⟩
abbrev cX5_valueIn : ByteArray := prog_7_method_33_code
def yX5_valueIn : MethodName := ⟨RX5, "valueIn", "(I)I"⟩
abbrev cX5_valueOf : ByteArray := prog_7_method_34_code
def yX5_valueOf : MethodName := ⟨RX5, "valueOf", "()I"⟩
abbrev cX5_tryNow : ByteArray := prog_7_method_35_code
def yX5_tryNow : MethodName := ⟨RX5, "tryNow", "()V"⟩
abbrev cX5_found : ByteArray := prog_7_method_36_code
def yX5_found : MethodName := ⟨RX5, "found", "(II)I"⟩
abbrev cX5_where : ByteArray := prog_7_method_37_code
def yX5_where : MethodName := ⟨RX5, "where", "(I)I"⟩
abbrev cX5_chokes : ByteArray := prog_7_method_38_code
def yX5_chokes : MethodName := ⟨RX5, "chokes", "()I"⟩
abbrev cX5_keep : ByteArray := prog_7_method_39_code
def yX5_keep : MethodName := ⟨RX5, "keep", "()V"⟩
abbrev cX5_shake : ByteArray := prog_7_method_40_code
def yX5_shake : MethodName := ⟨RX5, "shake", "()I"⟩
abbrev cX5_lasts : ByteArray := prog_7_method_41_code
def yX5_lasts : MethodName := ⟨RX5, "lasts", "()I"⟩
abbrev cX5_isRow : ByteArray := prog_7_method_42_code
def yX5_isRow : MethodName := ⟨RX5, "isRow", "()Z"⟩
abbrev cX5_nextRow : ByteArray := prog_7_method_43_code
def yX5_nextRow : MethodName := ⟨RX5, "nextRow", "()Z"⟩
abbrev cX5_areParted : ByteArray := prog_7_method_44_code
def yX5_areParted : MethodName := ⟨RX5, "areParted", "()Z"⟩
abbrev cX5_takeBest : ByteArray := prog_7_method_45_code
def yX5_takeBest : MethodName := ⟨RX5, "takeBest", "(I)V"⟩
abbrev cX5_findBest : ByteArray := prog_7_method_46_code
def yX5_findBest : MethodName := ⟨RX5, "findBest", "(IZ)V"⟩
abbrev cX5_best : ByteArray := prog_7_method_47_code
def yX5_best : MethodName := ⟨RX5, "best", "(II)I"⟩
abbrev cX5_parted : ByteArray := prog_7_method_48_code
def yX5_parted : MethodName := ⟨RX5, "parted", "(II)I"⟩
abbrev cX5_season : ByteArray := prog_7_method_49_code
def yX5_season : MethodName := ⟨RX5, "season", "(II)I"⟩
abbrev cX5_fits : ByteArray := prog_7_method_50_code
def yX5_fits : MethodName := ⟨RX5, "fits", "(I)J"⟩
abbrev cX5_shares : ByteArray := prog_7_method_51_code
def yX5_shares : MethodName := ⟨RX5, "shares", "(IIII)I"⟩
abbrev cX5_carried : ByteArray := prog_7_method_52_code
def yX5_carried : MethodName := ⟨RX5, "carried", "(IIZ)I"⟩
abbrev cX5_image : ByteArray := prog_7_method_53_code
def yX5_image : MethodName := ⟨RX5, "image", "()I"⟩
abbrev cX5_restore : ByteArray := prog_7_method_54_code
def yX5_restore : MethodName := ⟨RX5, "restore", "()I"⟩
abbrev cX5_isSheet : ByteArray := prog_7_method_55_code
def yX5_isSheet : MethodName := ⟨RX5, "isSheet", "(II)Z"⟩
abbrev cX5_asLane : ByteArray := prog_7_method_56_code
def yX5_asLane : MethodName := ⟨RX5, "asLane", "(II)I"⟩
abbrev cX5_sheet : ByteArray := prog_7_method_57_code
def yX5_sheet : MethodName := ⟨RX5, "sheet", "(III)I"⟩
abbrev cX5_drop : ByteArray := prog_7_method_58_code
def yX5_drop : MethodName := ⟨RX5, "drop", "(I)I"⟩
abbrev cX5_lacksRow : ByteArray := prog_7_method_59_code
def yX5_lacksRow : MethodName := ⟨RX5, "lacksRow", "(IIII)I"⟩
abbrev cX5_item : ByteArray := prog_7_method_60_code
def yX5_item : MethodName := ⟨RX5, "item", "(IIII)I"⟩
abbrev cX5_areFound : ByteArray := prog_7_method_61_code
def yX5_areFound : MethodName := ⟨RX5, "areFound", "(I)Z"⟩
abbrev cX5_meshes : ByteArray := prog_7_method_62_code
def yX5_meshes : MethodName := ⟨RX5, "meshes", "(IIII)J"⟩
abbrev cX5_torn : ByteArray := prog_7_method_63_code
def yX5_torn : MethodName := ⟨RX5, "torn", "(III)I"⟩
abbrev cX5_film : ByteArray := prog_7_method_64_code
def yX5_film : MethodName := ⟨RX5, "film", "(III)I"⟩
abbrev cX5_copy : ByteArray := prog_7_method_65_code
def yX5_copy : MethodName := ⟨RX5, "copy", "(IIIII)I"⟩
def RJ6 : String := "java/lang/Integer"
abbrev cJ6_bitCount_0f7a4 : ByteArray := prog_8_method_49_code
def yJ6_bitCount_0f7a4 : MethodName := ⟨RJ6, "bitCount", "(I)I"⟩
def RJ9 : String := "java/lang/Math"
abbrev cJ9_min_7cf53 : ByteArray := prog_9_method_69_code
def yJ9_min_7cf53 : MethodName := ⟨RJ9, "min", "(II)I"⟩
def RJ10 : String := "java/lang/System"
def RL : String := "SieveLoftLaw"
abbrev cL_law : ByteArray := code
def yL_law : MethodName := ⟨RL, "law", "([I)Z"⟩
abbrev vwCl : List vw_C := [(RX0, TX0, 13), (RX1, TX1, 6), (RX2, TX2, 3), (RX3, TX3, 4), (RX4, TX4, 7), (RX5, TX5, 32)]
