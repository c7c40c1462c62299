/-! the law's loop, and its start -/
set_option maxHeartbeats 4000000 in
set_option maxRecDepth 100000 in
theorem law_loop {E : CX} {Q : State → Prop} {cI cS : ClassId} {bx Lx cells slots : Nat} {xs : Nat → Int32} (hE : CxOk E cI cS RL cL_law 4 (some .boolean) 20 600000 7302250) (hZ : ScrOk E bx Lx xs) (hLx : Lx ≤ 3072) (hc : cells ≤ 600000) (hs : slots ≤ 7302250) {a b : Nat → Nat} (hend : ∀ (lv : List (Nat × Value)) (ws : va_W), Go E Q 4 cells slots 1119 lv [] ws) :
    ∀ (n i : Nat), i ≤ Lx → Lx - i < n → ∀ (m v w : MS) (T C : Nat → Int32) (li ap va le : Int32) (B : Nat → Int32) (L P : Nat) (F : Int32) (sh : SHS) (kf : Int32) (q : MS), REL m v w B L sh kf q → Go E Q 4 cells slots 18 [(0, .ref bx), (1, .ref (a 0)), (2, .ref (b 0)), (3, .int (nI i))] [] (lawW cI cS a b m v w T C li ap va le B L P F sh kf q) := by
  intro n
  induction n with
  | zero => intro i hi hn; exact absurd hn (Nat.not_lt_zero _)
  | succ n ih =>
    intro i hi hn m v w T C li ap va le B L P F sh kf q hREL
    refine g_iload_n hE dL_law_18 3 rfl ?_
    refine g_aload_n hE dL_law_19 0 rfl ?_
    refine g_slen hE hZ dL_law_20 ?_
    refine g_bipush hE dL_law_21 6 (by decide) ?_
    refine g_isub hE dL_law_23 ?_
    refine g_icmp_gt hE 1119 dL_law_24 (by decide) (fun _ => hend _ _) (fun c => ?_)
    have hi6 := le_6 hLx hi c
    have kk : LGo E Q cells slots cI cS a b bx i := by
      intro m v w T C li ap va le B L P F sh kf q hR
      refine g_iinc hE dL_law_1113 3 (nI (i + 6)) [(3, .int (nI (i + 6))), (0, .ref bx), (1, .ref (a 0)), (2, .ref (b 0))] rfl (nI_add i 6) (by decide) rfl ?_
      refine g_goto hE 18 dL_law_1116 (by decide) ?_
      refine g_locals [1, 2, 3, 0] [(0, .ref bx), (1, .ref (a 0)), (2, .ref (b 0)), (3, .int (nI (i + 6)))] rfl ?_
      exact ih (i + 6) hi6 (by omega) m v w T C li ap va le B L P F sh kf q hR
    refine g_aload_n hE dL_law_27 0 rfl ?_
    refine g_iload_n hE dL_law_28 3 rfl ?_
    refine g_sld hE hZ (show i < Lx by omega) hLx dL_law_29 ?_
    refine g_bipush hE dL_law_30 31 (by decide) ?_
    refine g_iand hE dL_law_32 ?_
    refine g_sw hE dL_law_33 1113 (fun j => [164, 207, 250, 303, 336, 369, 432, 445, 458, 471, 494, 527, 550, 563, 576, 589, 622, 655, 688, 712, 765, 778, 791, 845, 888, 931, 954, 1007, 1050].getD j 0) (by decide) 29 (by decide) (by intro j hj; rcases (show j = 0 ∨ j = 1 ∨ j = 2 ∨ j = 3 ∨ j = 4 ∨ j = 5 ∨ j = 6 ∨ j = 7 ∨ j = 8 ∨ j = 9 ∨ j = 10 ∨ j = 11 ∨ j = 12 ∨ j = 13 ∨ j = 14 ∨ j = 15 ∨ j = 16 ∨ j = 17 ∨ j = 18 ∨ j = 19 ∨ j = 20 ∨ j = 21 ∨ j = 22 ∨ j = 23 ∨ j = 24 ∨ j = 25 ∨ j = 26 ∨ j = 27 ∨ j = 28 by omega) with rfl | rfl | rfl | rfl | rfl | rfl | rfl | rfl | rfl | rfl | rfl | rfl | rfl | rfl | rfl | rfl | rfl | rfl | rfl | rfl | rfl | rfl | rfl | rfl | rfl | rfl | rfl | rfl | rfl <;> exact ⟨_, rfl, by decide⟩) (fun _ => kk m v w T C li ap va le B L P F sh kf q hREL) (fun j hj _ => ?_)
    rcases (show j = 0 ∨ j = 1 ∨ j = 2 ∨ j = 3 ∨ j = 4 ∨ j = 5 ∨ j = 6 ∨ j = 7 ∨ j = 8 ∨ j = 9 ∨ j = 10 ∨ j = 11 ∨ j = 12 ∨ j = 13 ∨ j = 14 ∨ j = 15 ∨ j = 16 ∨ j = 17 ∨ j = 18 ∨ j = 19 ∨ j = 20 ∨ j = 21 ∨ j = 22 ∨ j = 23 ∨ j = 24 ∨ j = 25 ∨ j = 26 ∨ j = 27 ∨ j = 28 by omega) with rfl | rfl | rfl | rfl | rfl | rfl | rfl | rfl | rfl | rfl | rfl | rfl | rfl | rfl | rfl | rfl | rfl | rfl | rfl | rfl | rfl | rfl | rfl | rfl | rfl | rfl | rfl | rfl | rfl
    · exact law_grain hE hZ hLx hi6 hc hs kk hREL
    · exact law_set hE hZ hLx hi6 hc hs kk hREL
    · exact law_sieve hE hZ hLx hi6 hc hs kk hREL
    · exact law_told hE hZ hLx hi6 hc hs kk hREL
    · exact law_mend hE hZ hLx hi6 hc hs kk hREL
    · exact law_type hE hZ hLx hi6 hc hs kk hREL
    · exact law_loft hE hZ hLx hi6 hc hs kk hREL
    · exact law_heap hE hZ hLx hi6 hc hs kk hREL
    · exact law_row hE hZ hLx hi6 hc hs kk hREL
    · exact law_count hE hZ hLx hi6 hc hs kk hREL
    · exact law_found hE hZ hLx hi6 hc hs kk hREL
    · exact law_where hE hZ hLx hi6 hc hs kk hREL
    · exact law_chokes hE hZ hLx hi6 hc hs kk hREL
    · exact law_shake hE hZ hLx hi6 hc hs kk hREL
    · exact law_lasts hE hZ hLx hi6 hc hs kk hREL
    · exact law_best hE hZ hLx hi6 hc hs kk hREL
    · exact law_parted hE hZ hLx hi6 hc hs kk hREL
    · exact law_season hE hZ hLx hi6 hc hs kk hREL
    · exact law_fits hE hZ hLx hi6 hc hs kk hREL
    · exact law_shares hE hZ hLx hi6 hc hs kk hREL
    · exact law_image hE hZ hLx hi6 hc hs kk hREL
    · exact law_restore hE hZ hLx hi6 hc hs kk hREL
    · exact law_meshes hE hZ hLx hi6 hc hs kk hREL
    · exact law_torn hE hZ hLx hi6 hc hs kk hREL
    · exact law_sheet hE hZ hLx hi6 hc hs kk hREL
    · exact law_drop hE hZ hLx hi6 hc hs kk hREL
    · exact law_item hE hZ hLx hi6 hc hs kk hREL
    · exact law_film hE hZ hLx hi6 hc hs kk hREL
    · exact law_copy hE hZ hLx hi6 hc hs kk hREL
