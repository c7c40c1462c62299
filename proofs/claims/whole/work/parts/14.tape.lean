/-! the tape: how it is read, byte by byte -/
def tpS (B : Nat → Int32) (L P : Nat) (F : Int32) : Nat → Nat → Int32 := fun g => cond (Nat.beq g 0) B (fun j => cond (Nat.beq j 0) (nI L) (cond (Nat.beq j 1) (nI P) F))
/-- the next place that is no blank -/
def skR (B : Nat → Int32) (L : Nat) : Nat → Nat → Nat
  | 0, P => P
  | f + 1, P => if P < L ∧ B P = 32 then skR B L f (P + 1) else P
def sk (B : Nat → Int32) (L P : Nat) : Nat := skR B L (L - P) P
theorem sk_s {B : Nat → Int32} {L q : Nat} (h : q < L) (h2 : B q = 32) : sk B L q = sk B L (q + 1) := by
  unfold sk
  rw [show L - q = (L - (q + 1)) + 1 by omega, skR, if_pos ⟨h, h2⟩]
theorem sk_e {B : Nat → Int32} {L q : Nat} (h : L ≤ q) : sk B L q = q := by
  unfold sk
  rw [show L - q = 0 by omega, skR]
theorem sk_b {B : Nat → Int32} {L q : Nat} (h : ¬ B q = 32) : sk B L q = q := by
  unfold sk
  cases hf : L - q with
  | zero => rfl
  | succ f => rw [skR, if_neg (fun z => h z.2)]
theorem skR_le {B : Nat → Int32} {L : Nat} : ∀ (f P : Nat), P ≤ L → skR B L f P ≤ L ∧ P ≤ skR B L f P
  | 0, P, h => ⟨h, Nat.le_refl _⟩
  | f + 1, P, h => by
    rw [skR]
    split
    · rename_i h2
      have := skR_le (B := B) (L := L) f (P + 1) (by omega)
      omega
    · omega
theorem sk_le {B : Nat → Int32} {L P : Nat} (h : P ≤ L) : sk B L P ≤ L := (skR_le _ _ h).1
theorem sk_ge {B : Nat → Int32} {L P : Nat} (h : P ≤ L) : P ≤ sk B L P := (skR_le _ _ h).2
theorem skR_stop {B : Nat → Int32} {L : Nat} : ∀ (f P : Nat), L - P ≤ f → ¬ (skR B L f P < L ∧ B (skR B L f P) = 32)
  | 0, P, h => by rw [skR]; omega
  | f + 1, P, h => by
    rw [skR]
    split
    · exact skR_stop f (P + 1) (by omega)
    · rename_i h2; exact h2
theorem sk_stop (B : Nat → Int32) (L P : Nat) : ¬ (sk B L P < L ∧ B (sk B L P) = 32) := skR_stop _ _ (Nat.le_refl _)
theorem sk_idem (B : Nat → Int32) (L P : Nat) : sk B L (sk B L P) = sk B L P := by
  by_cases h : sk B L P < L
  · exact sk_b (fun z => sk_stop B L P ⟨h, z⟩)
  · exact sk_e (by omega)
/-- the byte at a place, -1 at the end -/
def bt (B : Nat → Int32) (L q : Nat) : Int32 := if q < L then B q else -1
theorem bt_lt {B : Nat → Int32} {L q : Nat} {c : Int32} (hc : ¬ c = -1) (h : bt B L q = c) : q < L := by
  unfold bt at h
  by_cases e : q < L
  · exact e
  · rw [if_neg e] at h; exact absurd h.symm hc
theorem sk_lt_of {B : Nat → Int32} {L P : Nat} {c : Int32} (hP : P ≤ L) (hc : ¬ c = -1) (h : bt B L (sk B L P) = c) : sk B L P + 1 ≤ L := bt_lt hc h
theorem svle {a b : Nat} (h : a ≤ b) : a ≤ b := h
def psP (B : Nat → Int32) (L P : Nat) (c : Int32) : Nat := if bt B L (sk B L P) = c then sk B L P + 1 else sk B L P
theorem psP_y {B : Nat → Int32} {L P Q : Nat} {c : Int32} (hQ : sk B L P = Q) (h : bt B L Q = c) : psP B L P c = Q + 1 := by unfold psP; rw [hQ, if_pos h]
theorem psP_n {B : Nat → Int32} {L P Q : Nat} {c : Int32} (hQ : sk B L P = Q) (h : ¬ bt B L Q = c) : psP B L P c = Q := by unfold psP; rw [hQ, if_neg h]
/-- the first fault stays -/
def bl (F w : Int32) : Int32 := if F < 0 then w else F
def kdV (B : Nat → Int32) (L P : Nat) : Int32 := if bt B L (sk B L P) = 112 then 0 else if bt B L (sk B L P) = 115 then 1 else if bt B L (sk B L P) = 107 then 2 else if bt B L (sk B L P) = 116 then 3 else -1
def kdP (B : Nat → Int32) (L P : Nat) : Nat := if kdV B L P = -1 then sk B L P else sk B L P + 1
def kdF (B : Nat → Int32) (L P : Nat) (F : Int32) : Int32 := if kdV B L P = -1 then bl F (nI (sk B L P)) else F
theorem kd0 {B : Nat → Int32} {L P : Nat} (h : bt B L (sk B L P) = 112) : kdV B L P = 0 := by unfold kdV; rw [h]; decide
theorem kd1 {B : Nat → Int32} {L P : Nat} (h : bt B L (sk B L P) = 115) : kdV B L P = 1 := by unfold kdV; rw [h]; decide
theorem kd2 {B : Nat → Int32} {L P : Nat} (h : bt B L (sk B L P) = 107) : kdV B L P = 2 := by unfold kdV; rw [h]; decide
theorem kd3 {B : Nat → Int32} {L P : Nat} (h : bt B L (sk B L P) = 116) : kdV B L P = 3 := by unfold kdV; rw [h]; decide
theorem kdn {B : Nat → Int32} {L P : Nat} (h1 : ¬ bt B L (sk B L P) = 112) (h2 : ¬ bt B L (sk B L P) = 115) (h3 : ¬ bt B L (sk B L P) = 107) (h4 : ¬ bt B L (sk B L P) = 116) : kdV B L P = -1 := by
  unfold kdV; rw [if_neg h1, if_neg h2, if_neg h3, if_neg h4]
def dgV (B : Nat → Int32) (L P : Nat) (mo : Int32) : Int32 := if 0 ≤ (bt B L (sk B L P) - 48) ∧ (bt B L (sk B L P) - 48) ≤ mo then bt B L (sk B L P) - 48 else 0
def dgP (B : Nat → Int32) (L P : Nat) (mo : Int32) : Nat := if 0 ≤ (bt B L (sk B L P) - 48) ∧ (bt B L (sk B L P) - 48) ≤ mo then sk B L P + 1 else sk B L P
def dgF (B : Nat → Int32) (L P : Nat) (F mo : Int32) : Int32 := if 0 ≤ (bt B L (sk B L P) - 48) ∧ (bt B L (sk B L P) - 48) ≤ mo then F else bl F (nI (sk B L P))
/-- a number's figures: its value, 100000 at most, and the place behind it -/
def nuR (B : Nat → Int32) (L : Nat) : Nat → Nat → Int32 → Int32 × Nat
  | 0, q, acc => (acc, q)
  | f + 1, q, acc => if q < L ∧ (48 ≤ B q ∧ B q ≤ 57) then nuR B L f (q + 1) (if 100000 < (((acc * 10) + B q) - 48) then 100000 else (((acc * 10) + B q) - 48)) else (acc, q)
theorem nu_s {B : Nat → Int32} {L q : Nat} {acc : Int32} (h : q < L) (h2 : 48 ≤ B q ∧ B q ≤ 57) : nuR B L (L - q) q acc = nuR B L (L - (q + 1)) (q + 1) (if 100000 < (((acc * 10) + B q) - 48) then 100000 else (((acc * 10) + B q) - 48)) := by
  rw [show L - q = (L - (q + 1)) + 1 by omega, nuR, if_pos ⟨h, h2⟩]
theorem nu_e {B : Nat → Int32} {L q : Nat} {acc : Int32} (h : L ≤ q) : nuR B L (L - q) q acc = (acc, q) := by
  rw [show L - q = 0 by omega, nuR]
theorem nu_b {B : Nat → Int32} {L q : Nat} {acc : Int32} (h : ¬ (48 ≤ B q ∧ B q ≤ 57)) : nuR B L (L - q) q acc = (acc, q) := by
  cases hf : L - q with
  | zero => rfl
  | succ f => rw [nuR, if_neg (fun z => h z.2)]
def nuV (B : Nat → Int32) (L P : Nat) : Int32 := if 48 ≤ bt B L (sk B L P) ∧ bt B L (sk B L P) ≤ 57 then (nuR B L (L - sk B L P) (sk B L P) 0).1 else 0
def nuP (B : Nat → Int32) (L P : Nat) : Nat := if 48 ≤ bt B L (sk B L P) ∧ bt B L (sk B L P) ≤ 57 then (nuR B L (L - sk B L P) (sk B L P) 0).2 else sk B L P
def nuF (B : Nat → Int32) (L P : Nat) (F lo hi : Int32) : Int32 := if 48 ≤ bt B L (sk B L P) ∧ bt B L (sk B L P) ≤ 57 then (if lo ≤ (nuR B L (L - sk B L P) (sk B L P) 0).1 ∧ (nuR B L (L - sk B L P) (sk B L P) 0).1 ≤ hi then F else bl F (nI (sk B L P))) else bl F (nI (sk B L P))
def enF (B : Nat → Int32) (L P : Nat) (F : Int32) : Int32 := if bt B L (sk B L P) = -1 then F else bl F (nI (sk B L P))
set_option maxHeartbeats 4000000 in
set_option maxRecDepth 100000 in
theorem c_X3_append (cI cS : ClassId) (a : Nat → Nat) (B : Nat → Int32) (L P : Nat) (F : Int32) (hL : L ≤ 120) (b : Int32) (hlt : L < 120) : CT cI cS yX3_append cX3_append 2 none 1 [.ref (a 0), .int b] (tapeW cI a (tpS B L P F)) 0 0 (fun u : Unit => True) (fun u => none) (fun u => (tapeW cI a (tpS (upd B L b) (L + 1) P F))) := by
  refine ct_intro (by decide) (Nat.le_of_ble_eq_true rfl) (fun E Q hE hQ hI => ?_)
  have hE : CxOk E cI cS RX3 cX3_append 2 none 1 0 0 := hE
  show Go E Q 2 0 0 0 [(0, .ref (a 0)), (1, .int b)] [] (tapeW cI a (tpS B L P F))
  refine g_aload_n hE dX3_append_0 0 rfl ?_
  refine g_get hE fl_X3_9 dX3_append_1 0 rfl rfl ?_
  refine g_aload_n hE dX3_append_4 0 rfl ?_
  refine g_get hE fl_X3_15 dX3_append_5 0 rfl rfl ?_
  refine g_iload_n hE dX3_append_8 1 rfl ?_
  refine g_callSN hE (c_X4_put cI cS (a 1) 120 B (nI L) b (by decide)) mk_X4_put st_X4_put nl_X3_19 dX3_append_9 (As := [.ref (a 1), .int (nI L), .int b]) (rest := []) rfl rfl (by decide) (by decide) (Nat.le_of_ble_eq_true rfl) (by decide) (by decide) [1] rfl (by decide) (fun u => Nat.le_of_ble_eq_true rfl) (ws' := fun u => tapeW cI a (tpS u L P F)) (fun u => rfl) (fun u hu => ?_)
  obtain ⟨f_1, rfl⟩ : ∃ z, z = u := ⟨_, rfl⟩
  have h2 : f_1 = putv B 120 (nI L) b := hu
  have h3 : f_1 = (upd B L b) := h2.trans (by rw [show (nI L) = nI L from rfl]; exact putv_n (by omega) (by decide))
  subst h3
  show Go E Q 2 0 0 12 [(0, .ref (a 0)), (1, .int b)] [] (tapeW cI a (tpS (upd B L b) L P F))
  refine g_aload_n hE dX3_append_12 0 rfl ?_
  refine g_dup hE dX3_append_13 rfl ?_
  refine g_get hE fl_X3_15 dX3_append_14 0 rfl rfl ?_
  refine g_iconst hE dX3_append_17 1 (by decide) ?_
  refine g_iadd_n hE dX3_append_18 (show (nI L) = nI L from rfl) (show 1 = nI 1 from rfl) ?_
  refine g_put hE fl_X3_15 fp_3_1 dX3_append_19 0 rfl rfl rfl (Nat.le_of_ble_eq_true rfl) (tapeW cI a (tpS (upd B L b) (L + 1) P F)) (by rfl) ?_
  exact g_vret hE hQ dX3_append_22 () rfl rfl trivial
set_option maxHeartbeats 4000000 in
set_option maxRecDepth 100000 in
theorem c_X3_begin (cI cS : ClassId) (a : Nat → Nat) (B : Nat → Int32) (L P : Nat) (F : Int32) (hL : L ≤ 120) : CT cI cS yX3_begin cX3_begin 1 none 0 [.ref (a 0)] (tapeW cI a (tpS B L P F)) 0 0 (fun u : Unit => True) (fun u => none) (fun u => (tapeW cI a (tpS B L 0 (-1)))) := by
  refine ct_intro (by decide) (Nat.le_of_ble_eq_true rfl) (fun E Q hE hQ hI => ?_)
  have hE : CxOk E cI cS RX3 cX3_begin 1 none 0 0 0 := hE
  show Go E Q 1 0 0 0 [(0, .ref (a 0))] [] (tapeW cI a (tpS B L P F))
  refine g_aload_n hE dX3_begin_0 0 rfl ?_
  refine g_iconst hE dX3_begin_1 0 (by decide) ?_
  refine g_put hE fl_X3_82 fp_3_2 dX3_begin_2 0 rfl rfl rfl (Nat.le_of_ble_eq_true rfl) (tapeW cI a (tpS B L 0 F)) (by rfl) ?_
  refine g_aload_n hE dX3_begin_5 0 rfl ?_
  refine g_iconst hE dX3_begin_6 (-1) (by decide) ?_
  refine g_put hE fl_X3_52 fp_3_3 dX3_begin_7 0 rfl rfl rfl (Nat.le_of_ble_eq_true rfl) (tapeW cI a (tpS B L 0 (-1))) (by rfl) ?_
  exact g_vret hE hQ dX3_begin_10 () rfl rfl trivial
set_option maxHeartbeats 4000000 in
set_option maxRecDepth 100000 in
theorem c_X3_answerOr (cI cS : ClassId) (a : Nat → Nat) (B : Nat → Int32) (L P : Nat) (F : Int32) (hL : L ≤ 120) (k : Int32) : CT cI cS yX3_answerOr cX3_answerOr 2 (some .int) 0 [.ref (a 0), .int k] (tapeW cI a (tpS B L P F)) 0 0 (fun u : Int32 => u = if F < 0 then k else -20 - F) (fun u => some (.int u)) (fun u => (tapeW cI a (tpS B L P F))) := by
  refine ct_intro (by decide) (Nat.le_of_ble_eq_true rfl) (fun E Q hE hQ hI => ?_)
  have hE : CxOk E cI cS RX3 cX3_answerOr 2 (some .int) 0 0 0 := hE
  show Go E Q 2 0 0 0 [(0, .ref (a 0)), (1, .int k)] [] (tapeW cI a (tpS B L P F))
  refine g_aload_n hE dX3_answerOr_0 0 rfl ?_
  refine g_get hE fl_X3_52 dX3_answerOr_1 0 rfl rfl ?_
  refine g_if_ge hE 11 dX3_answerOr_4 (by decide) (fun c1 => ?_) (fun c1 => ?_)
  · refine g_bipush hE dX3_answerOr_11 (-20) (by decide) ?_
    refine g_aload_n hE dX3_answerOr_13 0 rfl ?_
    refine g_get hE fl_X3_52 dX3_answerOr_14 0 rfl rfl ?_
    refine g_isub hE dX3_answerOr_17 ?_
    exact g_iret hE hQ dX3_answerOr_18 rfl ((-20) - F) rfl rfl (if_neg (Int32.not_lt.mpr (by assumption))).symm
  · refine g_iload_n hE dX3_answerOr_7 1 rfl ?_
    refine g_goto hE 18 dX3_answerOr_8 (by decide) ?_
    exact g_iret hE hQ dX3_answerOr_18 rfl k rfl rfl (if_pos (Int32.not_le.mp (by assumption))).symm
set_option maxHeartbeats 4000000 in
set_option maxRecDepth 100000 in
theorem c_X3_blame (cI cS : ClassId) (a : Nat → Nat) (B : Nat → Int32) (L P : Nat) (F : Int32) (hL : L ≤ 120) (w : Int32) : CT cI cS yX3_blame cX3_blame 2 none 0 [.ref (a 0), .int w] (tapeW cI a (tpS B L P F)) 0 0 (fun u : Unit => True) (fun u => none) (fun u => (tapeW cI a (tpS B L P (bl F w)))) := by
  refine ct_intro (by decide) (Nat.le_of_ble_eq_true rfl) (fun E Q hE hQ hI => ?_)
  have hE : CxOk E cI cS RX3 cX3_blame 2 none 0 0 0 := hE
  show Go E Q 2 0 0 0 [(0, .ref (a 0)), (1, .int w)] [] (tapeW cI a (tpS B L P F))
  refine g_aload_n hE dX3_blame_0 0 rfl ?_
  refine g_get hE fl_X3_52 dX3_blame_1 0 rfl rfl ?_
  refine g_if_ge hE 12 dX3_blame_4 (by decide) (fun c1 => ?_) (fun c1 => ?_)
  · refine g_world (tapeW cI a (tpS B L P (bl F w))) (congrArg (fun z => tapeW cI a (tpS B L P z)) (by unfold bl; first | rw [if_pos (Int32.not_le.mp (by assumption))] | rw [if_neg (Int32.not_lt.mpr (by assumption))])) ?_
    exact g_vret hE hQ dX3_blame_12 () rfl rfl trivial
  · refine g_aload_n hE dX3_blame_7 0 rfl ?_
    refine g_iload_n hE dX3_blame_8 1 rfl ?_
    refine g_put hE fl_X3_52 fp_3_3 dX3_blame_9 0 rfl rfl rfl (Nat.le_of_ble_eq_true rfl) (tapeW cI a (tpS B L P w)) (by rfl) ?_
    refine g_world (tapeW cI a (tpS B L P (bl F w))) (congrArg (fun z => tapeW cI a (tpS B L P z)) (by unfold bl; first | rw [if_pos (Int32.not_le.mp (by assumption))] | rw [if_neg (Int32.not_lt.mpr (by assumption))])) ?_
    exact g_vret hE hQ dX3_blame_12 () rfl rfl trivial
set_option maxHeartbeats 4000000 in
set_option maxRecDepth 100000 in
theorem c_X3_next (cI cS : ClassId) (a : Nat → Nat) (B : Nat → Int32) (L P : Nat) (F : Int32) (hL : L ≤ 120) (hP : P ≤ L) : CT cI cS yX3_next cX3_next 1 (some .int) 1 [.ref (a 0)] (tapeW cI a (tpS B L P F)) 0 0 (fun u : Int32 => u = bt B L (sk B L P)) (fun u => some (.int u)) (fun u => (tapeW cI a (tpS B L (sk B L P) F))) := by
  refine ct_intro (by decide) (Nat.le_of_ble_eq_true rfl) (fun E Q hE hQ hI => ?_)
  have hE : CxOk E cI cS RX3 cX3_next 1 (some .int) 1 0 0 := hE
  show Go E Q 1 0 0 0 [(0, .ref (a 0))] [] (tapeW cI a (tpS B L P F))
  have L0 : ∀ (n_0 : Nat) (q : Nat), (q ≤ L) → (sk B L P = sk B L q) → (L - q < n_0) → Go E Q 1 0 0 0 [(0, .ref (a 0))] [] (tapeW cI a (tpS B L q F)) := by
    intro n_0
    induction n_0 with
    | zero => intro q hq hs hm_0; exact absurd hm_0 (Nat.not_lt_zero _)
    | succ n_0 ih_0 =>
      intro q hq hs hm_0
      refine g_aload_n hE dX3_next_0 0 rfl ?_
      refine g_get hE fl_X3_82 dX3_next_1 0 rfl rfl ?_
      refine g_aload_n hE dX3_next_4 0 rfl ?_
      refine g_get hE fl_X3_15 dX3_next_5 0 rfl rfl ?_
      refine g_icmp_ge hE 40 dX3_next_8 (by decide) (fun c1 => ?_) (fun c1 => ?_)
      · have kc1 := nat_le_t (show (nI L) = nI L from rfl) (show (nI q) = nI q from rfl) (by omega) (by omega) c1
        refine g_aload_n hE dX3_next_40 0 rfl ?_
        refine g_get hE fl_X3_82 dX3_next_41 0 rfl rfl ?_
        refine g_aload_n hE dX3_next_44 0 rfl ?_
        refine g_get hE fl_X3_15 dX3_next_45 0 rfl rfl ?_
        refine g_icmp_ge hE 65 dX3_next_48 (by decide) (fun c2 => ?_) (fun c2 => absurd (Int32.not_lt.mp (Int32.not_lt.mpr c1)) c2)
        refine g_iconst hE dX3_next_65 (-1) (by decide) ?_
        have hk : sk B L P = q := hs.trans (by first | exact sk_e (by omega) | exact sk_b (by assumption))
        refine g_world (tapeW cI a (tpS B L (sk B L P) F)) (by rw [hk]) ?_
        exact g_iret hE hQ dX3_next_66 rfl (-1) rfl rfl (by rw [hk]; unfold bt; first | rw [if_pos (by omega)] | rw [if_neg (by omega)])
      · have kc1 := nat_le_f (show (nI L) = nI L from rfl) (show (nI q) = nI q from rfl) (by omega) (by omega) c1
        refine g_aload_n hE dX3_next_11 0 rfl ?_
        refine g_get hE fl_X3_9 dX3_next_12 0 rfl rfl ?_
        refine g_aload_n hE dX3_next_15 0 rfl ?_
        refine g_get hE fl_X3_82 dX3_next_16 0 rfl rfl ?_
        refine g_callSN hE (c_X4_at cI cS (a 1) 120 B (nI q) (by decide)) mk_X4_at st_X4_at nl_X3_88 dX3_next_19 (As := [.ref (a 1), .int (nI q)]) (rest := []) rfl rfl (by decide) (by decide) (Nat.le_of_ble_eq_true rfl) (by decide) (by decide) [1] rfl (by decide) (fun u => Nat.le_of_ble_eq_true rfl) (ws' := fun u => tapeW cI a (tpS B L q F)) (fun u => rfl) (fun u hu => ?_)
        obtain ⟨r_3, rfl⟩ : ∃ z, z = u := ⟨_, rfl⟩
        have h4 : r_3 = (B q) := hu.trans (by rw [show (nI q) = nI q from rfl]; exact atv_n (by omega) (by decide))
        subst h4
        show Go E Q 1 0 0 22 [(0, .ref (a 0))] [.int (B q)] (tapeW cI a (tpS B L q F))
        refine g_bipush hE dX3_next_22 32 (by decide) ?_
        refine g_icmp_ne hE 40 dX3_next_24 (by decide) (fun c5 => ?_) (fun c5 => ?_)
        · refine g_aload_n hE dX3_next_40 0 rfl ?_
          refine g_get hE fl_X3_82 dX3_next_41 0 rfl rfl ?_
          refine g_aload_n hE dX3_next_44 0 rfl ?_
          refine g_get hE fl_X3_15 dX3_next_45 0 rfl rfl ?_
          refine g_icmp_ge hE 65 dX3_next_48 (by decide) (fun c6 => absurd (Int32.not_le.mp c1) (Int32.not_lt.mpr c6)) (fun c6 => ?_)
          refine g_aload_n hE dX3_next_51 0 rfl ?_
          refine g_get hE fl_X3_9 dX3_next_52 0 rfl rfl ?_
          refine g_aload_n hE dX3_next_55 0 rfl ?_
          refine g_get hE fl_X3_82 dX3_next_56 0 rfl rfl ?_
          refine g_callSN hE (c_X4_at cI cS (a 1) 120 B (nI q) (by decide)) mk_X4_at st_X4_at nl_X3_88 dX3_next_59 (As := [.ref (a 1), .int (nI q)]) (rest := []) rfl rfl (by decide) (by decide) (Nat.le_of_ble_eq_true rfl) (by decide) (by decide) [1] rfl (by decide) (fun u => Nat.le_of_ble_eq_true rfl) (ws' := fun u => tapeW cI a (tpS B L q F)) (fun u => rfl) (fun u hu => ?_)
          obtain ⟨r_7, rfl⟩ : ∃ z, z = u := ⟨_, rfl⟩
          have h8 : r_7 = (B q) := hu.trans (by rw [show (nI q) = nI q from rfl]; exact atv_n (by omega) (by decide))
          subst h8
          show Go E Q 1 0 0 62 [(0, .ref (a 0))] [.int (B q)] (tapeW cI a (tpS B L q F))
          refine g_goto hE 66 dX3_next_62 (by decide) ?_
          have hk : sk B L P = q := hs.trans (by first | exact sk_e (by omega) | exact sk_b (by assumption))
          refine g_world (tapeW cI a (tpS B L (sk B L P) F)) (by rw [hk]) ?_
          exact g_iret hE hQ dX3_next_66 rfl (B q) rfl rfl (by rw [hk]; unfold bt; first | rw [if_pos (by omega)] | rw [if_neg (by omega)])
        · refine g_aload_n hE dX3_next_27 0 rfl ?_
          refine g_dup hE dX3_next_28 rfl ?_
          refine g_get hE fl_X3_82 dX3_next_29 0 rfl rfl ?_
          refine g_iconst hE dX3_next_32 1 (by decide) ?_
          refine g_iadd_n hE dX3_next_33 (show (nI q) = nI q from rfl) (show 1 = nI 1 from rfl) ?_
          refine g_put hE fl_X3_82 fp_3_2 dX3_next_34 0 rfl rfl rfl (Nat.le_of_ble_eq_true rfl) (tapeW cI a (tpS B L (q + 1) F)) (by rfl) ?_
          refine g_goto hE 0 dX3_next_37 (by decide) ?_
          exact ih_0 (q + 1) (by first | assumption | omega) (hs.trans (sk_s (by omega) (by assumption))) (by omega)
  exact L0 _ P hP rfl (Nat.lt_succ_self _)
set_option maxHeartbeats 4000000 in
set_option maxRecDepth 100000 in
theorem c_X3_passes (cI cS : ClassId) (a : Nat → Nat) (B : Nat → Int32) (L P : Nat) (F : Int32) (hL : L ≤ 120) (hP : P ≤ L) (c : Int32) : CT cI cS yX3_passes cX3_passes 3 (some .boolean) 2 [.ref (a 0), .int c] (tapeW cI a (tpS B L P F)) 0 0 (fun u : Int32 => u = if bt B L (sk B L P) = c then 1 else 0) (fun u => some (.int u)) (fun u => (tapeW cI a (tpS B L (psP B L P c) F))) := by
  refine ct_intro (by decide) (Nat.le_of_ble_eq_true rfl) (fun E Q hE hQ hI => ?_)
  have hE : CxOk E cI cS RX3 cX3_passes 3 (some .boolean) 2 0 0 := hE
  show Go E Q 3 0 0 0 [(0, .ref (a 0)), (1, .int c)] [] (tapeW cI a (tpS B L P F))
  refine g_aload_n hE dX3_passes_0 0 rfl ?_
  refine g_callV hE (c_X3_next cI cS a B L P F hL (by first | assumption | exact sk_le (by assumption) | exact Nat.zero_le _ | omega | exact sk_lt_of (by assumption) (by decide) (by assumption) | exact svle (by assumption))) mk_X3_next mv_X3_next ml_X3_68 dX3_passes_1 (As := []) (rest := []) rfl rfl 0 rfl (show vwCl[3]? = some (RX3, TX3, 4) from rfl) (by decide) (by decide) (Nat.le_of_ble_eq_true rfl) (by decide) (by decide) [0, 1] rfl (by decide) (fun u => Nat.le_of_ble_eq_true rfl) (ws' := fun u => tapeW cI a (tpS B L (sk B L P) F)) (fun u => rfl) (fun u hu => ?_)
  obtain ⟨r_1, rfl⟩ : ∃ z, z = u := ⟨_, rfl⟩
  have h2 : r_1 = (bt B L (sk B L P)) := hu
  subst h2
  show Go E Q 3 0 0 4 [(0, .ref (a 0)), (1, .int c)] [.int (bt B L (sk B L P))] (tapeW cI a (tpS B L (sk B L P) F))
  refine g_iload_n hE dX3_passes_4 1 rfl ?_
  refine g_icmp_ne hE 12 dX3_passes_5 (by decide) (fun c3 => ?_) (fun c3 => ?_)
  · refine g_iconst hE dX3_passes_12 0 (by decide) ?_
    refine g_istore_n hE dX3_passes_13 [(2, .int 0), (0, .ref (a 0)), (1, .int c)] rfl (by decide) rfl ?_
    refine g_iload_n hE dX3_passes_14 0 rfl ?_
    refine g_if_eq hE 28 dX3_passes_15 (by decide) (fun c4 => ?_) (fun c4 => absurd (by decide) c4)
    refine g_iload_n hE dX3_passes_28 0 rfl ?_
    refine g_world (tapeW cI a (tpS B L (psP B L P c) F)) (by first | rw [psP_y rfl (by assumption)] | rw [psP_n rfl (by assumption)]) ?_
    exact g_iret hE hQ dX3_passes_29 (by first | rfl | decide) 0 rfl rfl (if_neg (by assumption)).symm
  · refine g_iconst hE dX3_passes_8 1 (by decide) ?_
    refine g_goto hE 13 dX3_passes_9 (by decide) ?_
    refine g_istore_n hE dX3_passes_13 [(2, .int 1), (0, .ref (a 0)), (1, .int c)] rfl (by decide) rfl ?_
    refine g_iload_n hE dX3_passes_14 0 rfl ?_
    refine g_if_eq hE 28 dX3_passes_15 (by decide) (fun c5 => absurd c5 (by decide)) (fun c5 => ?_)
    refine g_aload_n hE dX3_passes_18 1 rfl ?_
    refine g_dup hE dX3_passes_19 rfl ?_
    refine g_get hE fl_X3_82 dX3_passes_20 0 rfl rfl ?_
    refine g_iconst hE dX3_passes_23 1 (by decide) ?_
    refine g_iadd_n hE dX3_passes_24 (show (nI (sk B L P)) = nI (sk B L P) from rfl) (show 1 = nI 1 from rfl) ?_
    refine g_put hE fl_X3_82 fp_3_2 dX3_passes_25 0 rfl rfl rfl (Nat.le_of_ble_eq_true rfl) (tapeW cI a (tpS B L ((sk B L P) + 1) F)) (by rfl) ?_
    refine g_iload_n hE dX3_passes_28 0 rfl ?_
    refine g_world (tapeW cI a (tpS B L (psP B L P c) F)) (by first | rw [psP_y rfl (by assumption)] | rw [psP_n rfl (by assumption)]) ?_
    exact g_iret hE hQ dX3_passes_29 (by first | rfl | decide) 1 rfl rfl (if_pos (by assumption)).symm
set_option maxHeartbeats 4000000 in
set_option maxRecDepth 100000 in
theorem c_X3_readKind (cI cS : ClassId) (a : Nat → Nat) (B : Nat → Int32) (L P : Nat) (F : Int32) (hL : L ≤ 120) (hP : P ≤ L) : CT cI cS yX3_readKind cX3_readKind 2 (some .int) 3 [.ref (a 0)] (tapeW cI a (tpS B L P F)) 0 0 (fun u : Int32 => u = kdV B L P) (fun u => some (.int u)) (fun u => (tapeW cI a (tpS B L (kdP B L P) (kdF B L P F)))) := by
  refine ct_intro (by decide) (Nat.le_of_ble_eq_true rfl) (fun E Q hE hQ hI => ?_)
  have hE : CxOk E cI cS RX3 cX3_readKind 2 (some .int) 3 0 0 := hE
  show Go E Q 2 0 0 0 [(0, .ref (a 0))] [] (tapeW cI a (tpS B L P F))
  refine g_aload_n hE dX3_readKind_0 0 rfl ?_
  refine g_bipush hE dX3_readKind_1 112 (by decide) ?_
  refine g_callV hE (c_X3_passes cI cS a B L P F hL (by first | assumption | exact sk_le (by assumption) | exact Nat.zero_le _ | omega | exact sk_lt_of (by assumption) (by decide) (by assumption) | exact svle (by assumption)) 112) mk_X3_passes mv_X3_passes ml_X3_39 dX3_readKind_3 (As := [.int 112]) (rest := []) rfl rfl 0 rfl (show vwCl[3]? = some (RX3, TX3, 4) from rfl) (by decide) (by decide) (Nat.le_of_ble_eq_true rfl) (by decide) (by decide) [0, 1] rfl (by decide) (fun u => Nat.le_of_ble_eq_true rfl) (ws' := fun u => tapeW cI a (tpS B L (psP B L P 112) F)) (fun u => rfl) (fun u hu => ?_)
  obtain ⟨r_1, rfl⟩ : ∃ z, z = u := ⟨_, rfl⟩
  have h2 : r_1 = if bt B L (sk B L P) = 112 then 1 else 0 := hu
  by_cases c3 : bt B L (sk B L P) = 112
  · rw [if_pos c3] at h2
    subst h2
    refine g_world (tapeW cI a (tpS B L ((sk B L P) + 1) F)) (by rw [psP_y rfl c3]) ?_
    show Go E Q 2 0 0 6 [(0, .ref (a 0))] [.int 1] (tapeW cI a (tpS B L ((sk B L P) + 1) F))
    refine g_if_eq hE 13 dX3_readKind_6 (by decide) (fun c4 => absurd c4 (by decide)) (fun c4 => ?_)
    refine g_iconst hE dX3_readKind_9 0 (by decide) ?_
    refine g_goto hE 53 dX3_readKind_10 (by decide) ?_
    refine g_istore_n hE dX3_readKind_53 [(1, .int 0), (0, .ref (a 0))] rfl (by decide) rfl ?_
    refine g_iload_n hE dX3_readKind_54 0 rfl ?_
    refine g_iconst hE dX3_readKind_55 (-1) (by decide) ?_
    refine g_icmp_ne hE 67 dX3_readKind_56 (by decide) (fun c5 => ?_) (fun c5 => absurd c5 (by decide))
    refine g_iload_n hE dX3_readKind_67 0 rfl ?_
    have hk : kdV B L P = 0 := kd0 (by assumption)
    refine g_world (tapeW cI a (tpS B L (kdP B L P) (kdF B L P F))) (by rw [kdP, kdF, hk]; rfl) ?_
    exact g_iret hE hQ dX3_readKind_68 rfl 0 rfl rfl hk.symm
  · rw [if_neg c3] at h2
    subst h2
    refine g_world (tapeW cI a (tpS B L (sk B L P) F)) (by rw [psP_n rfl c3]) ?_
    show Go E Q 2 0 0 6 [(0, .ref (a 0))] [.int 0] (tapeW cI a (tpS B L (sk B L P) F))
    refine g_if_eq hE 13 dX3_readKind_6 (by decide) (fun c6 => ?_) (fun c6 => absurd (by decide) c6)
    refine g_aload_n hE dX3_readKind_13 0 rfl ?_
    refine g_bipush hE dX3_readKind_14 115 (by decide) ?_
    refine g_callV hE (c_X3_passes cI cS a B L (sk B L P) F hL (by first | assumption | exact sk_le (by assumption) | exact Nat.zero_le _ | omega | exact sk_lt_of (by assumption) (by decide) (by assumption) | exact svle (by assumption)) 115) mk_X3_passes mv_X3_passes ml_X3_39 dX3_readKind_16 (As := [.int 115]) (rest := []) rfl rfl 0 rfl (show vwCl[3]? = some (RX3, TX3, 4) from rfl) (by decide) (by decide) (Nat.le_of_ble_eq_true rfl) (by decide) (by decide) [0, 1] rfl (by decide) (fun u => Nat.le_of_ble_eq_true rfl) (ws' := fun u => tapeW cI a (tpS B L (psP B L (sk B L P) 115) F)) (fun u => rfl) (fun u hu => ?_)
    obtain ⟨r_7, rfl⟩ : ∃ z, z = u := ⟨_, rfl⟩
    have h8 : r_7 = if bt B L (sk B L P) = 115 then 1 else 0 := (by rw [sk_idem] at hu; exact hu)
    by_cases c9 : bt B L (sk B L P) = 115
    · rw [if_pos c9] at h8
      subst h8
      refine g_world (tapeW cI a (tpS B L ((sk B L P) + 1) F)) (by rw [psP_y (sk_idem _ _ _) c9]) ?_
      show Go E Q 2 0 0 19 [(0, .ref (a 0))] [.int 1] (tapeW cI a (tpS B L ((sk B L P) + 1) F))
      refine g_if_eq hE 26 dX3_readKind_19 (by decide) (fun c10 => absurd c10 (by decide)) (fun c10 => ?_)
      refine g_iconst hE dX3_readKind_22 1 (by decide) ?_
      refine g_goto hE 53 dX3_readKind_23 (by decide) ?_
      refine g_istore_n hE dX3_readKind_53 [(1, .int 1), (0, .ref (a 0))] rfl (by decide) rfl ?_
      refine g_iload_n hE dX3_readKind_54 0 rfl ?_
      refine g_iconst hE dX3_readKind_55 (-1) (by decide) ?_
      refine g_icmp_ne hE 67 dX3_readKind_56 (by decide) (fun c11 => ?_) (fun c11 => absurd c11 (by decide))
      refine g_iload_n hE dX3_readKind_67 0 rfl ?_
      have hk : kdV B L P = 1 := kd1 (by assumption)
      refine g_world (tapeW cI a (tpS B L (kdP B L P) (kdF B L P F))) (by rw [kdP, kdF, hk]; rfl) ?_
      exact g_iret hE hQ dX3_readKind_68 rfl 1 rfl rfl hk.symm
    · rw [if_neg c9] at h8
      subst h8
      refine g_world (tapeW cI a (tpS B L (sk B L P) F)) (by rw [psP_n (sk_idem _ _ _) c9]) ?_
      show Go E Q 2 0 0 19 [(0, .ref (a 0))] [.int 0] (tapeW cI a (tpS B L (sk B L P) F))
      refine g_if_eq hE 26 dX3_readKind_19 (by decide) (fun c12 => ?_) (fun c12 => absurd (by decide) c12)
      refine g_aload_n hE dX3_readKind_26 0 rfl ?_
      refine g_bipush hE dX3_readKind_27 107 (by decide) ?_
      refine g_callV hE (c_X3_passes cI cS a B L (sk B L P) F hL (by first | assumption | exact sk_le (by assumption) | exact Nat.zero_le _ | omega | exact sk_lt_of (by assumption) (by decide) (by assumption) | exact svle (by assumption)) 107) mk_X3_passes mv_X3_passes ml_X3_39 dX3_readKind_29 (As := [.int 107]) (rest := []) rfl rfl 0 rfl (show vwCl[3]? = some (RX3, TX3, 4) from rfl) (by decide) (by decide) (Nat.le_of_ble_eq_true rfl) (by decide) (by decide) [0, 1] rfl (by decide) (fun u => Nat.le_of_ble_eq_true rfl) (ws' := fun u => tapeW cI a (tpS B L (psP B L (sk B L P) 107) F)) (fun u => rfl) (fun u hu => ?_)
      obtain ⟨r_13, rfl⟩ : ∃ z, z = u := ⟨_, rfl⟩
      have h14 : r_13 = if bt B L (sk B L P) = 107 then 1 else 0 := (by rw [sk_idem] at hu; exact hu)
      by_cases c15 : bt B L (sk B L P) = 107
      · rw [if_pos c15] at h14
        subst h14
        refine g_world (tapeW cI a (tpS B L ((sk B L P) + 1) F)) (by rw [psP_y (sk_idem _ _ _) c15]) ?_
        show Go E Q 2 0 0 32 [(0, .ref (a 0))] [.int 1] (tapeW cI a (tpS B L ((sk B L P) + 1) F))
        refine g_if_eq hE 39 dX3_readKind_32 (by decide) (fun c16 => absurd c16 (by decide)) (fun c16 => ?_)
        refine g_iconst hE dX3_readKind_35 2 (by decide) ?_
        refine g_goto hE 53 dX3_readKind_36 (by decide) ?_
        refine g_istore_n hE dX3_readKind_53 [(1, .int 2), (0, .ref (a 0))] rfl (by decide) rfl ?_
        refine g_iload_n hE dX3_readKind_54 0 rfl ?_
        refine g_iconst hE dX3_readKind_55 (-1) (by decide) ?_
        refine g_icmp_ne hE 67 dX3_readKind_56 (by decide) (fun c17 => ?_) (fun c17 => absurd c17 (by decide))
        refine g_iload_n hE dX3_readKind_67 0 rfl ?_
        have hk : kdV B L P = 2 := kd2 (by assumption)
        refine g_world (tapeW cI a (tpS B L (kdP B L P) (kdF B L P F))) (by rw [kdP, kdF, hk]; rfl) ?_
        exact g_iret hE hQ dX3_readKind_68 rfl 2 rfl rfl hk.symm
      · rw [if_neg c15] at h14
        subst h14
        refine g_world (tapeW cI a (tpS B L (sk B L P) F)) (by rw [psP_n (sk_idem _ _ _) c15]) ?_
        show Go E Q 2 0 0 32 [(0, .ref (a 0))] [.int 0] (tapeW cI a (tpS B L (sk B L P) F))
        refine g_if_eq hE 39 dX3_readKind_32 (by decide) (fun c18 => ?_) (fun c18 => absurd (by decide) c18)
        refine g_aload_n hE dX3_readKind_39 0 rfl ?_
        refine g_bipush hE dX3_readKind_40 116 (by decide) ?_
        refine g_callV hE (c_X3_passes cI cS a B L (sk B L P) F hL (by first | assumption | exact sk_le (by assumption) | exact Nat.zero_le _ | omega | exact sk_lt_of (by assumption) (by decide) (by assumption) | exact svle (by assumption)) 116) mk_X3_passes mv_X3_passes ml_X3_39 dX3_readKind_42 (As := [.int 116]) (rest := []) rfl rfl 0 rfl (show vwCl[3]? = some (RX3, TX3, 4) from rfl) (by decide) (by decide) (Nat.le_of_ble_eq_true rfl) (by decide) (by decide) [0, 1] rfl (by decide) (fun u => Nat.le_of_ble_eq_true rfl) (ws' := fun u => tapeW cI a (tpS B L (psP B L (sk B L P) 116) F)) (fun u => rfl) (fun u hu => ?_)
        obtain ⟨r_19, rfl⟩ : ∃ z, z = u := ⟨_, rfl⟩
        have h20 : r_19 = if bt B L (sk B L P) = 116 then 1 else 0 := (by rw [sk_idem] at hu; exact hu)
        by_cases c21 : bt B L (sk B L P) = 116
        · rw [if_pos c21] at h20
          subst h20
          refine g_world (tapeW cI a (tpS B L ((sk B L P) + 1) F)) (by rw [psP_y (sk_idem _ _ _) c21]) ?_
          show Go E Q 2 0 0 45 [(0, .ref (a 0))] [.int 1] (tapeW cI a (tpS B L ((sk B L P) + 1) F))
          refine g_if_eq hE 52 dX3_readKind_45 (by decide) (fun c22 => absurd c22 (by decide)) (fun c22 => ?_)
          refine g_iconst hE dX3_readKind_48 3 (by decide) ?_
          refine g_goto hE 53 dX3_readKind_49 (by decide) ?_
          refine g_istore_n hE dX3_readKind_53 [(1, .int 3), (0, .ref (a 0))] rfl (by decide) rfl ?_
          refine g_iload_n hE dX3_readKind_54 0 rfl ?_
          refine g_iconst hE dX3_readKind_55 (-1) (by decide) ?_
          refine g_icmp_ne hE 67 dX3_readKind_56 (by decide) (fun c23 => ?_) (fun c23 => absurd c23 (by decide))
          refine g_iload_n hE dX3_readKind_67 0 rfl ?_
          have hk : kdV B L P = 3 := kd3 (by assumption)
          refine g_world (tapeW cI a (tpS B L (kdP B L P) (kdF B L P F))) (by rw [kdP, kdF, hk]; rfl) ?_
          exact g_iret hE hQ dX3_readKind_68 rfl 3 rfl rfl hk.symm
        · rw [if_neg c21] at h20
          subst h20
          refine g_world (tapeW cI a (tpS B L (sk B L P) F)) (by rw [psP_n (sk_idem _ _ _) c21]) ?_
          show Go E Q 2 0 0 45 [(0, .ref (a 0))] [.int 0] (tapeW cI a (tpS B L (sk B L P) F))
          refine g_if_eq hE 52 dX3_readKind_45 (by decide) (fun c24 => ?_) (fun c24 => absurd (by decide) c24)
          refine g_iconst hE dX3_readKind_52 (-1) (by decide) ?_
          refine g_istore_n hE dX3_readKind_53 [(1, .int (-1)), (0, .ref (a 0))] rfl (by decide) rfl ?_
          refine g_iload_n hE dX3_readKind_54 0 rfl ?_
          refine g_iconst hE dX3_readKind_55 (-1) (by decide) ?_
          refine g_icmp_ne hE 67 dX3_readKind_56 (by decide) (fun c25 => absurd (by decide) c25) (fun c25 => ?_)
          refine g_aload_n hE dX3_readKind_59 1 rfl ?_
          refine g_aload_n hE dX3_readKind_60 1 rfl ?_
          refine g_get hE fl_X3_82 dX3_readKind_61 0 rfl rfl ?_
          refine g_callV hE (c_X3_blame cI cS a B L (sk B L P) F hL (nI (sk B L P))) mk_X3_blame mv_X3_blame ml_X3_85 dX3_readKind_64 (As := [.int (nI (sk B L P))]) (rest := []) rfl rfl 0 rfl (show vwCl[3]? = some (RX3, TX3, 4) from rfl) (by decide) (by decide) (Nat.le_of_ble_eq_true rfl) (by decide) (by decide) [0, 1] rfl (by decide) (fun u => Nat.le_of_ble_eq_true rfl) (ws' := fun u => tapeW cI a (tpS B L (sk B L P) (bl F (nI (sk B L P))))) (fun u => rfl) (fun u hu => ?_)
          show Go E Q 2 0 0 67 [(1, .int (-1)), (0, .ref (a 0))] [] (tapeW cI a (tpS B L (sk B L P) (bl F (nI (sk B L P)))))
          refine g_iload_n hE dX3_readKind_67 0 rfl ?_
          have hk : kdV B L P = (-1) := kdn (by assumption) (by assumption) (by assumption) (by assumption)
          refine g_world (tapeW cI a (tpS B L (kdP B L P) (kdF B L P F))) (by rw [kdP, kdF, hk]; rfl) ?_
          exact g_iret hE hQ dX3_readKind_68 rfl (-1) rfl rfl hk.symm
set_option maxHeartbeats 4000000 in
set_option maxRecDepth 100000 in
theorem c_X3_readDigit (cI cS : ClassId) (a : Nat → Nat) (B : Nat → Int32) (L P : Nat) (F : Int32) (hL : L ≤ 120) (hP : P ≤ L) (mo : Int32) : CT cI cS yX3_readDigit cX3_readDigit 3 (some .int) 2 [.ref (a 0), .int mo] (tapeW cI a (tpS B L P F)) 0 0 (fun u : Int32 => u = dgV B L P mo) (fun u => some (.int u)) (fun u => (tapeW cI a (tpS B L (dgP B L P mo) (dgF B L P F mo)))) := by
  refine ct_intro (by decide) (Nat.le_of_ble_eq_true rfl) (fun E Q hE hQ hI => ?_)
  have hE : CxOk E cI cS RX3 cX3_readDigit 3 (some .int) 2 0 0 := hE
  show Go E Q 3 0 0 0 [(0, .ref (a 0)), (1, .int mo)] [] (tapeW cI a (tpS B L P F))
  refine g_aload_n hE dX3_readDigit_0 0 rfl ?_
  refine g_callV hE (c_X3_next cI cS a B L P F hL (by first | assumption | exact sk_le (by assumption) | exact Nat.zero_le _ | omega | exact sk_lt_of (by assumption) (by decide) (by assumption) | exact svle (by assumption))) mk_X3_next mv_X3_next ml_X3_68 dX3_readDigit_1 (As := []) (rest := []) rfl rfl 0 rfl (show vwCl[3]? = some (RX3, TX3, 4) from rfl) (by decide) (by decide) (Nat.le_of_ble_eq_true rfl) (by decide) (by decide) [0, 1] rfl (by decide) (fun u => Nat.le_of_ble_eq_true rfl) (ws' := fun u => tapeW cI a (tpS B L (sk B L P) F)) (fun u => rfl) (fun u hu => ?_)
  obtain ⟨r_1, rfl⟩ : ∃ z, z = u := ⟨_, rfl⟩
  have h2 : r_1 = (bt B L (sk B L P)) := hu
  subst h2
  show Go E Q 3 0 0 4 [(0, .ref (a 0)), (1, .int mo)] [.int (bt B L (sk B L P))] (tapeW cI a (tpS B L (sk B L P) F))
  refine g_bipush hE dX3_readDigit_4 48 (by decide) ?_
  refine g_isub hE dX3_readDigit_6 ?_
  refine g_istore_n hE dX3_readDigit_7 [(2, .int ((bt B L (sk B L P)) - 48)), (0, .ref (a 0)), (1, .int mo)] rfl (by decide) rfl ?_
  refine g_iload_n hE dX3_readDigit_8 0 rfl ?_
  refine g_iconst hE dX3_readDigit_9 0 (by decide) ?_
  refine g_iload_n hE dX3_readDigit_10 2 rfl ?_
  refine g_callSN hE (c_X4_within cI cS ((bt B L (sk B L P)) - 48) 0 mo) mk_X4_within st_X4_within nl_X3_71 dX3_readDigit_11 (As := [.int ((bt B L (sk B L P)) - 48), .int 0, .int mo]) (rest := []) rfl rfl (by decide) (by decide) (Nat.le_of_ble_eq_true rfl) (by decide) (by decide) [] rfl (by decide) (fun u => Nat.le_of_ble_eq_true rfl) (ws' := fun u => tapeW cI a (tpS B L (sk B L P) F)) (fun u => rfl) (fun u hu => ?_)
  obtain ⟨r_3, rfl⟩ : ∃ z, z = u := ⟨_, rfl⟩
  have h4 : r_3 = if 0 ≤ ((bt B L (sk B L P)) - 48) ∧ ((bt B L (sk B L P)) - 48) ≤ mo then 1 else 0 := hu
  by_cases c5 : 0 ≤ ((bt B L (sk B L P)) - 48) ∧ ((bt B L (sk B L P)) - 48) ≤ mo
  · rw [if_pos c5] at h4
    subst h4
    show Go E Q 3 0 0 14 [(2, .int ((bt B L (sk B L P)) - 48)), (0, .ref (a 0)), (1, .int mo)] [.int 1] (tapeW cI a (tpS B L (sk B L P) F))
    refine g_if_ne hE 27 dX3_readDigit_14 (by decide) (fun c6 => ?_) (fun c6 => absurd c6 (by decide))
    refine g_aload_n hE dX3_readDigit_27 1 rfl ?_
    refine g_dup hE dX3_readDigit_28 rfl ?_
    refine g_get hE fl_X3_82 dX3_readDigit_29 0 rfl rfl ?_
    refine g_iconst hE dX3_readDigit_32 1 (by decide) ?_
    refine g_iadd_n hE dX3_readDigit_33 (show (nI (sk B L P)) = nI (sk B L P) from rfl) (show 1 = nI 1 from rfl) ?_
    refine g_put hE fl_X3_82 fp_3_2 dX3_readDigit_34 0 rfl rfl rfl (Nat.le_of_ble_eq_true rfl) (tapeW cI a (tpS B L ((sk B L P) + 1) F)) (by rfl) ?_
    refine g_iload_n hE dX3_readDigit_37 0 rfl ?_
    refine g_world (tapeW cI a (tpS B L (dgP B L P mo) (dgF B L P F mo))) (by rw [dgP, dgF]; first | rw [if_pos (by assumption), if_pos (by assumption)] | rw [if_neg (by assumption), if_neg (by assumption)]) ?_
    exact g_iret hE hQ dX3_readDigit_38 rfl ((bt B L (sk B L P)) - 48) rfl rfl (by rw [dgV]; first | rw [if_pos (by assumption)] | rw [if_neg (by assumption)])
  · rw [if_neg c5] at h4
    subst h4
    show Go E Q 3 0 0 14 [(2, .int ((bt B L (sk B L P)) - 48)), (0, .ref (a 0)), (1, .int mo)] [.int 0] (tapeW cI a (tpS B L (sk B L P) F))
    refine g_if_ne hE 27 dX3_readDigit_14 (by decide) (fun c7 => absurd (by decide) c7) (fun c7 => ?_)
    refine g_aload_n hE dX3_readDigit_17 1 rfl ?_
    refine g_aload_n hE dX3_readDigit_18 1 rfl ?_
    refine g_get hE fl_X3_82 dX3_readDigit_19 0 rfl rfl ?_
    refine g_callV hE (c_X3_blame cI cS a B L (sk B L P) F hL (nI (sk B L P))) mk_X3_blame mv_X3_blame ml_X3_85 dX3_readDigit_22 (As := [.int (nI (sk B L P))]) (rest := []) rfl rfl 0 rfl (show vwCl[3]? = some (RX3, TX3, 4) from rfl) (by decide) (by decide) (Nat.le_of_ble_eq_true rfl) (by decide) (by decide) [0, 1] rfl (by decide) (fun u => Nat.le_of_ble_eq_true rfl) (ws' := fun u => tapeW cI a (tpS B L (sk B L P) (bl F (nI (sk B L P))))) (fun u => rfl) (fun u hu => ?_)
    show Go E Q 3 0 0 25 [(2, .int ((bt B L (sk B L P)) - 48)), (0, .ref (a 0)), (1, .int mo)] [] (tapeW cI a (tpS B L (sk B L P) (bl F (nI (sk B L P)))))
    refine g_iconst hE dX3_readDigit_25 0 (by decide) ?_
    refine g_world (tapeW cI a (tpS B L (dgP B L P mo) (dgF B L P F mo))) (by rw [dgP, dgF]; first | rw [if_pos (by assumption), if_pos (by assumption)] | rw [if_neg (by assumption), if_neg (by assumption)]) ?_
    exact g_iret hE hQ dX3_readDigit_26 rfl 0 rfl rfl (by rw [dgV]; first | rw [if_pos (by assumption)] | rw [if_neg (by assumption)])
set_option maxHeartbeats 4000000 in
set_option maxRecDepth 100000 in
theorem c_X3_readNumber (cI cS : ClassId) (a : Nat → Nat) (B : Nat → Int32) (L P : Nat) (F : Int32) (hL : L ≤ 120) (hP : P ≤ L) (lo hi : Int32) : CT cI cS yX3_readNumber cX3_readNumber 5 (some .int) 2 [.ref (a 0), .int lo, .int hi] (tapeW cI a (tpS B L P F)) 0 0 (fun u : Int32 => u = nuV B L P) (fun u => some (.int u)) (fun u => (tapeW cI a (tpS B L (nuP B L P) (nuF B L P F lo hi)))) := by
  refine ct_intro (by decide) (Nat.le_of_ble_eq_true rfl) (fun E Q hE hQ hI => ?_)
  have hE : CxOk E cI cS RX3 cX3_readNumber 5 (some .int) 2 0 0 := hE
  show Go E Q 5 0 0 0 [(0, .ref (a 0)), (1, .int lo), (2, .int hi)] [] (tapeW cI a (tpS B L P F))
  refine g_aload_n hE dX3_readNumber_0 0 rfl ?_
  refine g_callV hE (c_X3_next cI cS a B L P F hL (by first | assumption | exact sk_le (by assumption) | exact Nat.zero_le _ | omega | exact sk_lt_of (by assumption) (by decide) (by assumption) | exact svle (by assumption))) mk_X3_next mv_X3_next ml_X3_68 dX3_readNumber_1 (As := []) (rest := []) rfl rfl 0 rfl (show vwCl[3]? = some (RX3, TX3, 4) from rfl) (by decide) (by decide) (Nat.le_of_ble_eq_true rfl) (by decide) (by decide) [0, 1] rfl (by decide) (fun u => Nat.le_of_ble_eq_true rfl) (ws' := fun u => tapeW cI a (tpS B L (sk B L P) F)) (fun u => rfl) (fun u hu => ?_)
  obtain ⟨r_1, rfl⟩ : ∃ z, z = u := ⟨_, rfl⟩
  have h2 : r_1 = (bt B L (sk B L P)) := hu
  subst h2
  show Go E Q 5 0 0 4 [(0, .ref (a 0)), (1, .int lo), (2, .int hi)] [.int (bt B L (sk B L P))] (tapeW cI a (tpS B L (sk B L P) F))
  refine g_bipush hE dX3_readNumber_4 48 (by decide) ?_
  refine g_bipush hE dX3_readNumber_6 57 (by decide) ?_
  refine g_callSN hE (c_X4_within cI cS (bt B L (sk B L P)) 48 57) mk_X4_within st_X4_within nl_X3_71 dX3_readNumber_8 (As := [.int (bt B L (sk B L P)), .int 48, .int 57]) (rest := []) rfl rfl (by decide) (by decide) (Nat.le_of_ble_eq_true rfl) (by decide) (by decide) [] rfl (by decide) (fun u => Nat.le_of_ble_eq_true rfl) (ws' := fun u => tapeW cI a (tpS B L (sk B L P) F)) (fun u => rfl) (fun u hu => ?_)
  obtain ⟨r_3, rfl⟩ : ∃ z, z = u := ⟨_, rfl⟩
  have h4 : r_3 = if 48 ≤ (bt B L (sk B L P)) ∧ (bt B L (sk B L P)) ≤ 57 then 1 else 0 := hu
  by_cases c5 : 48 ≤ (bt B L (sk B L P)) ∧ (bt B L (sk B L P)) ≤ 57
  · rw [if_pos c5] at h4
    subst h4
    show Go E Q 5 0 0 11 [(0, .ref (a 0)), (1, .int lo), (2, .int hi)] [.int 1] (tapeW cI a (tpS B L (sk B L P) F))
    refine g_if_ne hE 24 dX3_readNumber_11 (by decide) (fun c6 => ?_) (fun c6 => absurd c6 (by decide))
    refine g_aload_n hE dX3_readNumber_24 0 rfl ?_
    refine g_get hE fl_X3_82 dX3_readNumber_25 0 rfl rfl ?_
    refine g_istore_n hE dX3_readNumber_28 [(3, .int (nI (sk B L P))), (0, .ref (a 0)), (1, .int lo), (2, .int hi)] rfl (by decide) rfl ?_
    refine g_iconst hE dX3_readNumber_29 0 (by decide) ?_
    refine g_istore hE dX3_readNumber_30 [(4, .int 0), (3, .int (nI (sk B L P))), (0, .ref (a 0)), (1, .int lo), (2, .int hi)] (by decide) rfl ?_
    have L32 : ∀ (n_32 : Nat) (q : Nat) (acc : Int32), (q ≤ L) → ((nuR B L (L - sk B L P) (sk B L P) 0) = nuR B L (L - q) q acc) → (L - q < n_32) → Go E Q 5 0 0 32 [(0, .ref (a 0)), (1, .int lo), (2, .int hi), (3, .int (nI (sk B L P))), (4, .int acc)] [] (tapeW cI a (tpS B L q F)) := by
      intro n_32
      induction n_32 with
      | zero => intro q acc hq hs hm_32; exact absurd hm_32 (Nat.not_lt_zero _)
      | succ n_32 ih_32 =>
        intro q acc hq hs hm_32
        have hd0 : 48 ≤ bt B L (sk B L P) ∧ bt B L (sk B L P) ≤ 57 := by assumption
        refine g_aload_n hE dX3_readNumber_32 0 rfl ?_
        refine g_get hE fl_X3_82 dX3_readNumber_33 0 rfl rfl ?_
        refine g_aload_n hE dX3_readNumber_36 0 rfl ?_
        refine g_get hE fl_X3_15 dX3_readNumber_37 0 rfl rfl ?_
        refine g_icmp_ge hE 104 dX3_readNumber_40 (by decide) (fun c7 => ?_) (fun c7 => ?_)
        · have kc7 := nat_le_t (show (nI L) = nI L from rfl) (show (nI q) = nI q from rfl) (by omega) (by omega) c7
          refine g_iload hE dX3_readNumber_104 4 rfl ?_
          refine g_iload_n hE dX3_readNumber_106 1 rfl ?_
          refine g_iload_n hE dX3_readNumber_107 2 rfl ?_
          refine g_callSN hE (c_X4_within cI cS acc lo hi) mk_X4_within st_X4_within nl_X3_71 dX3_readNumber_108 (As := [.int acc, .int lo, .int hi]) (rest := []) rfl rfl (by decide) (by decide) (Nat.le_of_ble_eq_true rfl) (by decide) (by decide) [] rfl (by decide) (fun u => Nat.le_of_ble_eq_true rfl) (ws' := fun u => tapeW cI a (tpS B L q F)) (fun u => rfl) (fun u hu => ?_)
          obtain ⟨r_8, rfl⟩ : ∃ z, z = u := ⟨_, rfl⟩
          have h9 : r_8 = if lo ≤ acc ∧ acc ≤ hi then 1 else 0 := hu
          by_cases c10 : lo ≤ acc ∧ acc ≤ hi
          · rw [if_pos c10] at h9
            subst h9
            show Go E Q 5 0 0 111 [(0, .ref (a 0)), (1, .int lo), (2, .int hi), (3, .int (nI (sk B L P))), (4, .int acc)] [.int 1] (tapeW cI a (tpS B L q F))
            refine g_if_ne hE 119 dX3_readNumber_111 (by decide) (fun c11 => ?_) (fun c11 => absurd c11 (by decide))
            refine g_iload hE dX3_readNumber_119 4 rfl ?_
            have hk : (nuR B L (L - sk B L P) (sk B L P) 0) = (acc, q) := hs.trans (by first | exact nu_e (by omega) | exact nu_b (by assumption))
            refine g_world (tapeW cI a (tpS B L (nuP B L P) (nuF B L P F lo hi))) (by rw [nuP, nuF, if_pos hd0, if_pos hd0, hk]; first | rw [if_pos (by assumption)] | rw [if_neg (by assumption)]) ?_
            exact g_iret hE hQ dX3_readNumber_121 rfl acc rfl rfl (by rw [nuV, if_pos hd0, hk])
          · rw [if_neg c10] at h9
            subst h9
            show Go E Q 5 0 0 111 [(0, .ref (a 0)), (1, .int lo), (2, .int hi), (3, .int (nI (sk B L P))), (4, .int acc)] [.int 0] (tapeW cI a (tpS B L q F))
            refine g_if_ne hE 119 dX3_readNumber_111 (by decide) (fun c12 => absurd (by decide) c12) (fun c12 => ?_)
            refine g_aload_n hE dX3_readNumber_114 0 rfl ?_
            refine g_iload_n hE dX3_readNumber_115 3 rfl ?_
            refine g_callV hE (c_X3_blame cI cS a B L q F hL (nI (sk B L P))) mk_X3_blame mv_X3_blame ml_X3_85 dX3_readNumber_116 (As := [.int (nI (sk B L P))]) (rest := []) rfl rfl 0 rfl (show vwCl[3]? = some (RX3, TX3, 4) from rfl) (by decide) (by decide) (Nat.le_of_ble_eq_true rfl) (by decide) (by decide) [0, 1] rfl (by decide) (fun u => Nat.le_of_ble_eq_true rfl) (ws' := fun u => tapeW cI a (tpS B L q (bl F (nI (sk B L P))))) (fun u => rfl) (fun u hu => ?_)
            show Go E Q 5 0 0 119 [(0, .ref (a 0)), (1, .int lo), (2, .int hi), (3, .int (nI (sk B L P))), (4, .int acc)] [] (tapeW cI a (tpS B L q (bl F (nI (sk B L P)))))
            refine g_iload hE dX3_readNumber_119 4 rfl ?_
            have hk : (nuR B L (L - sk B L P) (sk B L P) 0) = (acc, q) := hs.trans (by first | exact nu_e (by omega) | exact nu_b (by assumption))
            refine g_world (tapeW cI a (tpS B L (nuP B L P) (nuF B L P F lo hi))) (by rw [nuP, nuF, if_pos hd0, if_pos hd0, hk]; first | rw [if_pos (by assumption)] | rw [if_neg (by assumption)]) ?_
            exact g_iret hE hQ dX3_readNumber_121 rfl acc rfl rfl (by rw [nuV, if_pos hd0, hk])
        · have kc7 := nat_le_f (show (nI L) = nI L from rfl) (show (nI q) = nI q from rfl) (by omega) (by omega) c7
          refine g_aload_n hE dX3_readNumber_43 0 rfl ?_
          refine g_get hE fl_X3_9 dX3_readNumber_44 0 rfl rfl ?_
          refine g_aload_n hE dX3_readNumber_47 0 rfl ?_
          refine g_get hE fl_X3_82 dX3_readNumber_48 0 rfl rfl ?_
          refine g_callSN hE (c_X4_at cI cS (a 1) 120 B (nI q) (by decide)) mk_X4_at st_X4_at nl_X3_88 dX3_readNumber_51 (As := [.ref (a 1), .int (nI q)]) (rest := []) rfl rfl (by decide) (by decide) (Nat.le_of_ble_eq_true rfl) (by decide) (by decide) [1] rfl (by decide) (fun u => Nat.le_of_ble_eq_true rfl) (ws' := fun u => tapeW cI a (tpS B L q F)) (fun u => rfl) (fun u hu => ?_)
          obtain ⟨r_14, rfl⟩ : ∃ z, z = u := ⟨_, rfl⟩
          have h15 : r_14 = (B q) := hu.trans (by rw [show (nI q) = nI q from rfl]; exact atv_n (by omega) (by decide))
          subst h15
          show Go E Q 5 0 0 54 [(0, .ref (a 0)), (1, .int lo), (2, .int hi), (3, .int (nI (sk B L P))), (4, .int acc)] [.int (B q)] (tapeW cI a (tpS B L q F))
          refine g_bipush hE dX3_readNumber_54 48 (by decide) ?_
          refine g_bipush hE dX3_readNumber_56 57 (by decide) ?_
          refine g_callSN hE (c_X4_within cI cS (B q) 48 57) mk_X4_within st_X4_within nl_X3_71 dX3_readNumber_58 (As := [.int (B q), .int 48, .int 57]) (rest := []) rfl rfl (by decide) (by decide) (Nat.le_of_ble_eq_true rfl) (by decide) (by decide) [] rfl (by decide) (fun u => Nat.le_of_ble_eq_true rfl) (ws' := fun u => tapeW cI a (tpS B L q F)) (fun u => rfl) (fun u hu => ?_)
          obtain ⟨r_16, rfl⟩ : ∃ z, z = u := ⟨_, rfl⟩
          have h17 : r_16 = if 48 ≤ (B q) ∧ (B q) ≤ 57 then 1 else 0 := hu
          by_cases c18 : 48 ≤ (B q) ∧ (B q) ≤ 57
          · rw [if_pos c18] at h17
            subst h17
            show Go E Q 5 0 0 61 [(0, .ref (a 0)), (1, .int lo), (2, .int hi), (3, .int (nI (sk B L P))), (4, .int acc)] [.int 1] (tapeW cI a (tpS B L q F))
            refine g_if_eq hE 104 dX3_readNumber_61 (by decide) (fun c19 => absurd c19 (by decide)) (fun c19 => ?_)
            refine g_iload hE dX3_readNumber_64 4 rfl ?_
            refine g_bipush hE dX3_readNumber_66 10 (by decide) ?_
            refine g_imul hE dX3_readNumber_68 ?_
            refine g_aload_n hE dX3_readNumber_69 0 rfl ?_
            refine g_get hE fl_X3_9 dX3_readNumber_70 0 rfl rfl ?_
            refine g_aload_n hE dX3_readNumber_73 0 rfl ?_
            refine g_get hE fl_X3_82 dX3_readNumber_74 0 rfl rfl ?_
            refine g_callSN hE (c_X4_at cI cS (a 1) 120 B (nI q) (by decide)) mk_X4_at st_X4_at nl_X3_88 dX3_readNumber_77 (As := [.ref (a 1), .int (nI q)]) (rest := [.int (acc * 10)]) rfl rfl (by decide) (by decide) (Nat.le_of_ble_eq_true rfl) (by decide) (by decide) [1] rfl (by decide) (fun u => Nat.le_of_ble_eq_true rfl) (ws' := fun u => tapeW cI a (tpS B L q F)) (fun u => rfl) (fun u hu => ?_)
            obtain ⟨r_20, rfl⟩ : ∃ z, z = u := ⟨_, rfl⟩
            have h21 : r_20 = (B q) := hu.trans (by rw [show (nI q) = nI q from rfl]; exact atv_n (by omega) (by decide))
            subst h21
            show Go E Q 5 0 0 80 [(0, .ref (a 0)), (1, .int lo), (2, .int hi), (3, .int (nI (sk B L P))), (4, .int acc)] [.int (B q), .int (acc * 10)] (tapeW cI a (tpS B L q F))
            refine g_iadd hE dX3_readNumber_80 ?_
            refine g_bipush hE dX3_readNumber_81 48 (by decide) ?_
            refine g_isub hE dX3_readNumber_83 ?_
            refine g_ldc hE dX3_readNumber_84 ck_X3_92 ?_
            refine g_min hE (by decide) (by decide) (by decide) ml_X3_93 mi_st mi_in mi_co dX3_readNumber_86 (Nat.le_of_ble_eq_true rfl) ?_
            refine g_istore hE dX3_readNumber_89 [(4, .int (if 100000 < (((acc * 10) + (B q)) - 48) then 100000 else (((acc * 10) + (B q)) - 48))), (0, .ref (a 0)), (1, .int lo), (2, .int hi), (3, .int (nI (sk B L P)))] (by decide) rfl ?_
            refine g_aload_n hE dX3_readNumber_91 1 rfl ?_
            refine g_dup hE dX3_readNumber_92 rfl ?_
            refine g_get hE fl_X3_82 dX3_readNumber_93 0 rfl rfl ?_
            refine g_iconst hE dX3_readNumber_96 1 (by decide) ?_
            refine g_iadd_n hE dX3_readNumber_97 (show (nI q) = nI q from rfl) (show 1 = nI 1 from rfl) ?_
            refine g_put hE fl_X3_82 fp_3_2 dX3_readNumber_98 0 rfl rfl rfl (Nat.le_of_ble_eq_true rfl) (tapeW cI a (tpS B L (q + 1) F)) (by rfl) ?_
            refine g_goto hE 32 dX3_readNumber_101 (by decide) ?_
            refine g_locals [1, 2, 3, 4, 0] [(0, .ref (a 0)), (1, .int lo), (2, .int hi), (3, .int (nI (sk B L P))), (4, .int (if 100000 < (((acc * 10) + (B q)) - 48) then 100000 else (((acc * 10) + (B q)) - 48)))] rfl ?_
            exact ih_32 (q + 1) (if 100000 < (((acc * 10) + (B q)) - 48) then 100000 else (((acc * 10) + (B q)) - 48)) (by first | assumption | omega) (hs.trans (nu_s (by omega) (by assumption))) (by omega)
          · rw [if_neg c18] at h17
            subst h17
            show Go E Q 5 0 0 61 [(0, .ref (a 0)), (1, .int lo), (2, .int hi), (3, .int (nI (sk B L P))), (4, .int acc)] [.int 0] (tapeW cI a (tpS B L q F))
            refine g_if_eq hE 104 dX3_readNumber_61 (by decide) (fun c22 => ?_) (fun c22 => absurd (by decide) c22)
            refine g_iload hE dX3_readNumber_104 4 rfl ?_
            refine g_iload_n hE dX3_readNumber_106 1 rfl ?_
            refine g_iload_n hE dX3_readNumber_107 2 rfl ?_
            refine g_callSN hE (c_X4_within cI cS acc lo hi) mk_X4_within st_X4_within nl_X3_71 dX3_readNumber_108 (As := [.int acc, .int lo, .int hi]) (rest := []) rfl rfl (by decide) (by decide) (Nat.le_of_ble_eq_true rfl) (by decide) (by decide) [] rfl (by decide) (fun u => Nat.le_of_ble_eq_true rfl) (ws' := fun u => tapeW cI a (tpS B L q F)) (fun u => rfl) (fun u hu => ?_)
            obtain ⟨r_23, rfl⟩ : ∃ z, z = u := ⟨_, rfl⟩
            have h24 : r_23 = if lo ≤ acc ∧ acc ≤ hi then 1 else 0 := hu
            by_cases c25 : lo ≤ acc ∧ acc ≤ hi
            · rw [if_pos c25] at h24
              subst h24
              show Go E Q 5 0 0 111 [(0, .ref (a 0)), (1, .int lo), (2, .int hi), (3, .int (nI (sk B L P))), (4, .int acc)] [.int 1] (tapeW cI a (tpS B L q F))
              refine g_if_ne hE 119 dX3_readNumber_111 (by decide) (fun c26 => ?_) (fun c26 => absurd c26 (by decide))
              refine g_iload hE dX3_readNumber_119 4 rfl ?_
              have hk : (nuR B L (L - sk B L P) (sk B L P) 0) = (acc, q) := hs.trans (by first | exact nu_e (by omega) | exact nu_b (by assumption))
              refine g_world (tapeW cI a (tpS B L (nuP B L P) (nuF B L P F lo hi))) (by rw [nuP, nuF, if_pos hd0, if_pos hd0, hk]; first | rw [if_pos (by assumption)] | rw [if_neg (by assumption)]) ?_
              exact g_iret hE hQ dX3_readNumber_121 rfl acc rfl rfl (by rw [nuV, if_pos hd0, hk])
            · rw [if_neg c25] at h24
              subst h24
              show Go E Q 5 0 0 111 [(0, .ref (a 0)), (1, .int lo), (2, .int hi), (3, .int (nI (sk B L P))), (4, .int acc)] [.int 0] (tapeW cI a (tpS B L q F))
              refine g_if_ne hE 119 dX3_readNumber_111 (by decide) (fun c27 => absurd (by decide) c27) (fun c27 => ?_)
              refine g_aload_n hE dX3_readNumber_114 0 rfl ?_
              refine g_iload_n hE dX3_readNumber_115 3 rfl ?_
              refine g_callV hE (c_X3_blame cI cS a B L q F hL (nI (sk B L P))) mk_X3_blame mv_X3_blame ml_X3_85 dX3_readNumber_116 (As := [.int (nI (sk B L P))]) (rest := []) rfl rfl 0 rfl (show vwCl[3]? = some (RX3, TX3, 4) from rfl) (by decide) (by decide) (Nat.le_of_ble_eq_true rfl) (by decide) (by decide) [0, 1] rfl (by decide) (fun u => Nat.le_of_ble_eq_true rfl) (ws' := fun u => tapeW cI a (tpS B L q (bl F (nI (sk B L P))))) (fun u => rfl) (fun u hu => ?_)
              show Go E Q 5 0 0 119 [(0, .ref (a 0)), (1, .int lo), (2, .int hi), (3, .int (nI (sk B L P))), (4, .int acc)] [] (tapeW cI a (tpS B L q (bl F (nI (sk B L P)))))
              refine g_iload hE dX3_readNumber_119 4 rfl ?_
              have hk : (nuR B L (L - sk B L P) (sk B L P) 0) = (acc, q) := hs.trans (by first | exact nu_e (by omega) | exact nu_b (by assumption))
              refine g_world (tapeW cI a (tpS B L (nuP B L P) (nuF B L P F lo hi))) (by rw [nuP, nuF, if_pos hd0, if_pos hd0, hk]; first | rw [if_pos (by assumption)] | rw [if_neg (by assumption)]) ?_
              exact g_iret hE hQ dX3_readNumber_121 rfl acc rfl rfl (by rw [nuV, if_pos hd0, hk])
    refine g_locals [2, 3, 4, 1, 0] [(0, .ref (a 0)), (1, .int lo), (2, .int hi), (3, .int (nI (sk B L P))), (4, .int 0)] rfl ?_
    exact L32 _ (sk B L P) 0 (sk_le hP) rfl (Nat.lt_succ_self _)
  · rw [if_neg c5] at h4
    subst h4
    show Go E Q 5 0 0 11 [(0, .ref (a 0)), (1, .int lo), (2, .int hi)] [.int 0] (tapeW cI a (tpS B L (sk B L P) F))
    refine g_if_ne hE 24 dX3_readNumber_11 (by decide) (fun c29 => absurd (by decide) c29) (fun c29 => ?_)
    refine g_aload_n hE dX3_readNumber_14 0 rfl ?_
    refine g_aload_n hE dX3_readNumber_15 0 rfl ?_
    refine g_get hE fl_X3_82 dX3_readNumber_16 0 rfl rfl ?_
    refine g_callV hE (c_X3_blame cI cS a B L (sk B L P) F hL (nI (sk B L P))) mk_X3_blame mv_X3_blame ml_X3_85 dX3_readNumber_19 (As := [.int (nI (sk B L P))]) (rest := []) rfl rfl 0 rfl (show vwCl[3]? = some (RX3, TX3, 4) from rfl) (by decide) (by decide) (Nat.le_of_ble_eq_true rfl) (by decide) (by decide) [0, 1] rfl (by decide) (fun u => Nat.le_of_ble_eq_true rfl) (ws' := fun u => tapeW cI a (tpS B L (sk B L P) (bl F (nI (sk B L P))))) (fun u => rfl) (fun u hu => ?_)
    show Go E Q 5 0 0 22 [(0, .ref (a 0)), (1, .int lo), (2, .int hi)] [] (tapeW cI a (tpS B L (sk B L P) (bl F (nI (sk B L P)))))
    refine g_iconst hE dX3_readNumber_22 0 (by decide) ?_
    refine g_world (tapeW cI a (tpS B L (nuP B L P) (nuF B L P F lo hi))) (by rw [nuP, nuF, if_neg (by assumption), if_neg (by assumption)]) ?_
    exact g_iret hE hQ dX3_readNumber_23 rfl 0 rfl rfl (by rw [nuV, if_neg (by assumption)])
set_option maxHeartbeats 4000000 in
set_option maxRecDepth 100000 in
theorem c_X3_end (cI cS : ClassId) (a : Nat → Nat) (B : Nat → Int32) (L P : Nat) (F : Int32) (hL : L ≤ 120) (hP : P ≤ L) : CT cI cS yX3_end cX3_end 1 none 2 [.ref (a 0)] (tapeW cI a (tpS B L P F)) 0 0 (fun u : Unit => True) (fun u => none) (fun u => (tapeW cI a (tpS B 0 (sk B L P) (enF B L P F)))) := by
  refine ct_intro (by decide) (Nat.le_of_ble_eq_true rfl) (fun E Q hE hQ hI => ?_)
  have hE : CxOk E cI cS RX3 cX3_end 1 none 2 0 0 := hE
  show Go E Q 1 0 0 0 [(0, .ref (a 0))] [] (tapeW cI a (tpS B L P F))
  refine g_aload_n hE dX3_end_0 0 rfl ?_
  refine g_callV hE (c_X3_next cI cS a B L P F hL (by first | assumption | exact sk_le (by assumption) | exact Nat.zero_le _ | omega | exact sk_lt_of (by assumption) (by decide) (by assumption) | exact svle (by assumption))) mk_X3_next mv_X3_next ml_X3_68 dX3_end_1 (As := []) (rest := []) rfl rfl 0 rfl (show vwCl[3]? = some (RX3, TX3, 4) from rfl) (by decide) (by decide) (Nat.le_of_ble_eq_true rfl) (by decide) (by decide) [0, 1] rfl (by decide) (fun u => Nat.le_of_ble_eq_true rfl) (ws' := fun u => tapeW cI a (tpS B L (sk B L P) F)) (fun u => rfl) (fun u hu => ?_)
  obtain ⟨r_1, rfl⟩ : ∃ z, z = u := ⟨_, rfl⟩
  have h2 : r_1 = (bt B L (sk B L P)) := hu
  subst h2
  show Go E Q 1 0 0 4 [(0, .ref (a 0))] [.int (bt B L (sk B L P))] (tapeW cI a (tpS B L (sk B L P) F))
  refine g_iconst hE dX3_end_4 (-1) (by decide) ?_
  refine g_icmp_eq hE 16 dX3_end_5 (by decide) (fun c3 => ?_) (fun c3 => ?_)
  · refine g_aload_n hE dX3_end_16 0 rfl ?_
    refine g_iconst hE dX3_end_17 0 (by decide) ?_
    refine g_put hE fl_X3_15 fp_3_1 dX3_end_18 0 rfl rfl rfl (Nat.le_of_ble_eq_true rfl) (tapeW cI a (tpS B 0 (sk B L P) F)) (by rfl) ?_
    refine g_world (tapeW cI a (tpS B 0 (sk B L P) (enF B L P F))) (by rw [enF]; first | rw [if_pos (by assumption)] | rw [if_neg (by assumption)]) ?_
    exact g_vret hE hQ dX3_end_21 () rfl rfl trivial
  · refine g_aload_n hE dX3_end_8 0 rfl ?_
    refine g_aload_n hE dX3_end_9 0 rfl ?_
    refine g_get hE fl_X3_82 dX3_end_10 0 rfl rfl ?_
    refine g_callV hE (c_X3_blame cI cS a B L (sk B L P) F hL (nI (sk B L P))) mk_X3_blame mv_X3_blame ml_X3_85 dX3_end_13 (As := [.int (nI (sk B L P))]) (rest := []) rfl rfl 0 rfl (show vwCl[3]? = some (RX3, TX3, 4) from rfl) (by decide) (by decide) (Nat.le_of_ble_eq_true rfl) (by decide) (by decide) [0, 1] rfl (by decide) (fun u => Nat.le_of_ble_eq_true rfl) (ws' := fun u => tapeW cI a (tpS B L (sk B L P) (bl F (nI (sk B L P))))) (fun u => rfl) (fun u hu => ?_)
    show Go E Q 1 0 0 16 [(0, .ref (a 0))] [] (tapeW cI a (tpS B L (sk B L P) (bl F (nI (sk B L P)))))
    refine g_aload_n hE dX3_end_16 0 rfl ?_
    refine g_iconst hE dX3_end_17 0 (by decide) ?_
    refine g_put hE fl_X3_15 fp_3_1 dX3_end_18 0 rfl rfl rfl (Nat.le_of_ble_eq_true rfl) (tapeW cI a (tpS B 0 (sk B L P) (bl F (nI (sk B L P))))) (by rfl) ?_
    refine g_world (tapeW cI a (tpS B 0 (sk B L P) (enF B L P F))) (by rw [enF]; first | rw [if_pos (by assumption)] | rw [if_neg (by assumption)]) ?_
    exact g_vret hE hQ dX3_end_21 () rfl rfl trivial
