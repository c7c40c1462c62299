/-! the law: its calls, one behind the other -/
set_option maxHeartbeats 4000000 in
set_option maxRecDepth 100000 in
theorem law_grain {E : CX} {Q : State → Prop} {cI cS : ClassId} {bx Lx i cells slots : Nat} {xs : Nat → Int32} (hE : CxOk E cI cS RL cL_law 4 (some .boolean) 20 600000 7302250) (hZ : ScrOk E bx Lx xs) (hLx : Lx ≤ 3072) (hi : i + 6 ≤ Lx) (hc : cells ≤ 600000) (hs : slots ≤ 7302250) {a b : Nat → Nat} (kk : LGo E Q cells slots cI cS a b bx i) {m v w : MS} {T C : Nat → Int32} {li ap va le : Int32} {B : Nat → Int32} {L P : Nat} {F : Int32} {sh : SHS} {kf : Int32} {q : MS} (hREL : REL m v w B L sh kf q) : Go E Q 4 cells slots 164 [(0, .ref bx), (1, .ref (a 0)), (2, .ref (b 0)), (3, .int (nI i))] [] (lawW cI cS a b m v w T C li ap va le B L P F sh kf q) := by
  obtain ⟨n, sv, pl, n1, sv1, pl1, n2, sv2, pl2, nw, sw, pw, hRQ, hV, hW, hL, hB5, htp, hBn, hSQ, hKQ⟩ := hREL
  subst hB5
  refine g_aload_n hE dL_law_164 1 rfl ?_
  refine g_arg hE hZ 1 rfl rfl rfl (by omega) hLx dL_law_165 dL_law_166 dL_law_167 dL_law_168 dL_law_169 ?_
  refine g_arg hE hZ 2 rfl rfl rfl (by omega) hLx dL_law_170 dL_law_171 dL_law_172 dL_law_173 dL_law_174 ?_
  refine g_arg hE hZ 3 rfl rfl rfl (by omega) hLx dL_law_175 dL_law_176 dL_law_177 dL_law_178 dL_law_179 ?_
  refine g_callV hE (c_X4_grain cI cS a m v w T C li ap va le (q 5) L P F sh kf hRQ.1 hV hW hL (xs (i + 1)) (xs (i + 2)) (xs (i + 3)) ) mk_X4_grain mv_X4_grain ml_L_13 dL_law_180 (As := [.int (xs (i + 1)), .int (xs (i + 2)), .int (xs (i + 3))]) (rest := []) rfl rfl 0 rfl (show vwCl[4]? = some (RX4, TX4, 7) from rfl) (by decide) (by decide) (Nat.le_of_ble_eq_true rfl) hc hs [0, 1, 2, 3, 4, 5, 6, 7, 8, 9, 10, 11, 12, 13, 14, 15, 16, 17, 18, 19, 20, 21, 22, 23, 24, 25, 26, 27, 28, 29, 30, 31, 32, 33, 34, 35, 36, 37, 38, 39, 40, 41, 42, 43, 44] rfl (by decide) (fun u => Nat.le_of_ble_eq_true rfl) (ws' := fun u => lawW cI cS a b u.2 v w T C li ap va le (q 5) L P F sh kf q) (fun u => rfl) (fun u hu => ?_)
  show Go E Q 4 cells slots 183 [(0, .ref bx), (1, .ref (a 0)), (2, .ref (b 0)), (3, .int (nI i))] [.int u.1] (lawW cI cS a b u.2 v w T C li ap va le (q 5) L P F sh kf q)
  refine g_aload_n hE dL_law_183 2 rfl ?_
  refine g_arg hE hZ 1 rfl rfl rfl (by omega) hLx dL_law_184 dL_law_185 dL_law_186 dL_law_187 dL_law_188 ?_
  refine g_arg hE hZ 2 rfl rfl rfl (by omega) hLx dL_law_189 dL_law_190 dL_law_191 dL_law_192 dL_law_193 ?_
  refine g_arg hE hZ 3 rfl rfl rfl (by omega) hLx dL_law_194 dL_law_195 dL_law_196 dL_law_197 dL_law_198 ?_
  refine g_callV hE (c_X5_grain cI cS b q m hRQ (xs (i + 1)) (xs (i + 2)) (xs (i + 3))) mk_X5_grain mv_X5_grain ml_L_17 dL_law_199 (As := [.int (xs (i + 1)), .int (xs (i + 2)), .int (xs (i + 3))]) (rest := [.int u.1]) rfl rfl 45 rfl (show vwCl[5]? = some (RX5, TX5, 32) from rfl) (by decide) (by decide) (Nat.le_of_ble_eq_true rfl) hc hs [45, 46, 47, 48, 49, 50, 51, 52, 53, 54, 55, 56, 57, 58, 59, 60, 61, 62, 63] rfl (by decide) (fun u2 => Nat.le_of_ble_eq_true rfl) (ws' := fun u2 => lawW cI cS a b u.2 v w T C li ap va le (q 5) L P F sh kf u2.2) (fun u2 => rfl) (fun u2 hu2 => ?_)
  show Go E Q 4 cells slots 202 [(0, .ref bx), (1, .ref (a 0)), (2, .ref (b 0)), (3, .int (nI i))] [.int u2.1, .int u.1] (lawW cI cS a b u.2 v w T C li ap va le (q 5) L P F sh kf u2.2)
  obtain ⟨k, hR⟩ := hu2.2.1
  refine g_icmp_eq hE 1113 dL_law_202 (by decide) (fun _ => ?_) (fun z => absurd ((congrArg Prod.fst hu).trans hu2.1.symm) z)
  exact kk _ _ _ _ _ _ _ _ _ _ _ _ _ _ _ _ (REL_of (by rw [show u.2 = (fgGrain m n (xs (i + 1)) (xs (i + 2)) (xs (i + 3))).2 from congrArg Prod.snd hu]; exact hR) hV hW hL htp hBn hSQ hKQ hu2.2.2)
set_option maxHeartbeats 4000000 in
set_option maxRecDepth 100000 in
theorem law_set {E : CX} {Q : State → Prop} {cI cS : ClassId} {bx Lx i cells slots : Nat} {xs : Nat → Int32} (hE : CxOk E cI cS RL cL_law 4 (some .boolean) 20 600000 7302250) (hZ : ScrOk E bx Lx xs) (hLx : Lx ≤ 3072) (hi : i + 6 ≤ Lx) (hc : cells ≤ 600000) (hs : slots ≤ 7302250) {a b : Nat → Nat} (kk : LGo E Q cells slots cI cS a b bx i) {m v w : MS} {T C : Nat → Int32} {li ap va le : Int32} {B : Nat → Int32} {L P : Nat} {F : Int32} {sh : SHS} {kf : Int32} {q : MS} (hREL : REL m v w B L sh kf q) : Go E Q 4 cells slots 207 [(0, .ref bx), (1, .ref (a 0)), (2, .ref (b 0)), (3, .int (nI i))] [] (lawW cI cS a b m v w T C li ap va le B L P F sh kf q) := by
  obtain ⟨n, sv, pl, n1, sv1, pl1, n2, sv2, pl2, nw, sw, pw, hRQ, hV, hW, hL, hB5, htp, hBn, hSQ, hKQ⟩ := hREL
  subst hB5
  refine g_aload_n hE dL_law_207 1 rfl ?_
  refine g_arg hE hZ 1 rfl rfl rfl (by omega) hLx dL_law_208 dL_law_209 dL_law_210 dL_law_211 dL_law_212 ?_
  refine g_arg hE hZ 2 rfl rfl rfl (by omega) hLx dL_law_213 dL_law_214 dL_law_215 dL_law_216 dL_law_217 ?_
  refine g_arg hE hZ 3 rfl rfl rfl (by omega) hLx dL_law_218 dL_law_219 dL_law_220 dL_law_221 dL_law_222 ?_
  refine g_callV hE (c_X4_set cI cS a m v w T C li ap va le (q 5) L P F sh kf hRQ.1 hV hW hL (xs (i + 1)) (xs (i + 2)) (xs (i + 3)) ) mk_X4_set mv_X4_set ml_L_18 dL_law_223 (As := [.int (xs (i + 1)), .int (xs (i + 2)), .int (xs (i + 3))]) (rest := []) rfl rfl 0 rfl (show vwCl[4]? = some (RX4, TX4, 7) from rfl) (by decide) (by decide) (Nat.le_of_ble_eq_true rfl) hc hs [0, 1, 2, 3, 4, 5, 6, 7, 8, 9, 10, 11, 12, 13, 14, 15, 16, 17, 18, 19, 20, 21, 22, 23, 24, 25, 26, 27, 28, 29, 30, 31, 32, 33, 34, 35, 36, 37, 38, 39, 40, 41, 42, 43, 44] rfl (by decide) (fun u => Nat.le_of_ble_eq_true rfl) (ws' := fun u => lawW cI cS a b u.2 v w T C li ap va le (q 5) L P F sh kf q) (fun u => rfl) (fun u hu => ?_)
  show Go E Q 4 cells slots 226 [(0, .ref bx), (1, .ref (a 0)), (2, .ref (b 0)), (3, .int (nI i))] [.int u.1] (lawW cI cS a b u.2 v w T C li ap va le (q 5) L P F sh kf q)
  refine g_aload_n hE dL_law_226 2 rfl ?_
  refine g_arg hE hZ 1 rfl rfl rfl (by omega) hLx dL_law_227 dL_law_228 dL_law_229 dL_law_230 dL_law_231 ?_
  refine g_arg hE hZ 2 rfl rfl rfl (by omega) hLx dL_law_232 dL_law_233 dL_law_234 dL_law_235 dL_law_236 ?_
  refine g_arg hE hZ 3 rfl rfl rfl (by omega) hLx dL_law_237 dL_law_238 dL_law_239 dL_law_240 dL_law_241 ?_
  refine g_callV hE (c_X5_set cI cS b q m hRQ (xs (i + 1)) (xs (i + 2)) (xs (i + 3))) mk_X5_set mv_X5_set ml_L_21 dL_law_242 (As := [.int (xs (i + 1)), .int (xs (i + 2)), .int (xs (i + 3))]) (rest := [.int u.1]) rfl rfl 45 rfl (show vwCl[5]? = some (RX5, TX5, 32) from rfl) (by decide) (by decide) (Nat.le_of_ble_eq_true rfl) hc hs [45, 46, 47, 48, 49, 50, 51, 52, 53, 54, 55, 56, 57, 58, 59, 60, 61, 62, 63] rfl (by decide) (fun u2 => Nat.le_of_ble_eq_true rfl) (ws' := fun u2 => lawW cI cS a b u.2 v w T C li ap va le (q 5) L P F sh kf u2.2) (fun u2 => rfl) (fun u2 hu2 => ?_)
  show Go E Q 4 cells slots 245 [(0, .ref bx), (1, .ref (a 0)), (2, .ref (b 0)), (3, .int (nI i))] [.int u2.1, .int u.1] (lawW cI cS a b u.2 v w T C li ap va le (q 5) L P F sh kf u2.2)
  refine g_icmp_eq hE 1113 dL_law_245 (by decide) (fun _ => ?_) (fun z => absurd ((congrArg Prod.fst hu).trans hu2.1.symm) z)
  exact kk _ _ _ _ _ _ _ _ _ _ _ _ _ _ _ _ (REL_of (by rw [show u.2 = (fgSet m (xs (i + 1)) (xs (i + 2)) (xs (i + 3))).2 from congrArg Prod.snd hu]; exact hu2.2.1) hV hW hL htp hBn hSQ hKQ hu2.2.2)
set_option maxHeartbeats 4000000 in
set_option maxRecDepth 100000 in
theorem law_sieve {E : CX} {Q : State → Prop} {cI cS : ClassId} {bx Lx i cells slots : Nat} {xs : Nat → Int32} (hE : CxOk E cI cS RL cL_law 4 (some .boolean) 20 600000 7302250) (hZ : ScrOk E bx Lx xs) (hLx : Lx ≤ 3072) (hi : i + 6 ≤ Lx) (hc : cells ≤ 600000) (hs : slots ≤ 7302250) {a b : Nat → Nat} (kk : LGo E Q cells slots cI cS a b bx i) {m v w : MS} {T C : Nat → Int32} {li ap va le : Int32} {B : Nat → Int32} {L P : Nat} {F : Int32} {sh : SHS} {kf : Int32} {q : MS} (hREL : REL m v w B L sh kf q) : Go E Q 4 cells slots 250 [(0, .ref bx), (1, .ref (a 0)), (2, .ref (b 0)), (3, .int (nI i))] [] (lawW cI cS a b m v w T C li ap va le B L P F sh kf q) := by
  obtain ⟨n, sv, pl, n1, sv1, pl1, n2, sv2, pl2, nw, sw, pw, hRQ, hV, hW, hL, hB5, htp, hBn, hSQ, hKQ⟩ := hREL
  subst hB5
  refine g_aload_n hE dL_law_250 1 rfl ?_
  refine g_arg hE hZ 1 rfl rfl rfl (by omega) hLx dL_law_251 dL_law_252 dL_law_253 dL_law_254 dL_law_255 ?_
  refine g_arg hE hZ 2 rfl rfl rfl (by omega) hLx dL_law_256 dL_law_257 dL_law_258 dL_law_259 dL_law_260 ?_
  refine g_arg hE hZ 3 rfl rfl rfl (by omega) hLx dL_law_261 dL_law_262 dL_law_263 dL_law_264 dL_law_265 ?_
  refine g_arg hE hZ 4 rfl rfl rfl (by omega) hLx dL_law_266 dL_law_267 dL_law_268 dL_law_269 dL_law_270 ?_
  refine g_callV hE (c_X4_sieve cI cS a m v w T C li ap va le (q 5) L P F sh kf hRQ.1 hV hW hL (xs (i + 1)) (xs (i + 2)) (xs (i + 3)) (xs (i + 4)) ) mk_X4_sieve mv_X4_sieve ml_L_22 dL_law_271 (As := [.int (xs (i + 1)), .int (xs (i + 2)), .int (xs (i + 3)), .int (xs (i + 4))]) (rest := []) rfl rfl 0 rfl (show vwCl[4]? = some (RX4, TX4, 7) from rfl) (by decide) (by decide) (Nat.le_of_ble_eq_true rfl) hc hs [0, 1, 2, 3, 4, 5, 6, 7, 8, 9, 10, 11, 12, 13, 14, 15, 16, 17, 18, 19, 20, 21, 22, 23, 24, 25, 26, 27, 28, 29, 30, 31, 32, 33, 34, 35, 36, 37, 38, 39, 40, 41, 42, 43, 44] rfl (by decide) (fun u => Nat.le_of_ble_eq_true rfl) (ws' := fun u => lawW cI cS a b u.2 v w T C li ap va le (q 5) L P F sh kf q) (fun u => rfl) (fun u hu => ?_)
  show Go E Q 4 cells slots 274 [(0, .ref bx), (1, .ref (a 0)), (2, .ref (b 0)), (3, .int (nI i))] [.int u.1] (lawW cI cS a b u.2 v w T C li ap va le (q 5) L P F sh kf q)
  refine g_aload_n hE dL_law_274 2 rfl ?_
  refine g_arg hE hZ 1 rfl rfl rfl (by omega) hLx dL_law_275 dL_law_276 dL_law_277 dL_law_278 dL_law_279 ?_
  refine g_arg hE hZ 2 rfl rfl rfl (by omega) hLx dL_law_280 dL_law_281 dL_law_282 dL_law_283 dL_law_284 ?_
  refine g_arg hE hZ 3 rfl rfl rfl (by omega) hLx dL_law_285 dL_law_286 dL_law_287 dL_law_288 dL_law_289 ?_
  refine g_arg hE hZ 4 rfl rfl rfl (by omega) hLx dL_law_290 dL_law_291 dL_law_292 dL_law_293 dL_law_294 ?_
  refine g_callV hE (c_X5_sieve cI cS b q m hRQ (xs (i + 1)) (xs (i + 2)) (xs (i + 3)) (xs (i + 4))) mk_X5_sieve mv_X5_sieve ml_L_26 dL_law_295 (As := [.int (xs (i + 1)), .int (xs (i + 2)), .int (xs (i + 3)), .int (xs (i + 4))]) (rest := [.int u.1]) rfl rfl 45 rfl (show vwCl[5]? = some (RX5, TX5, 32) from rfl) (by decide) (by decide) (Nat.le_of_ble_eq_true rfl) hc hs [45, 46, 47, 48, 49, 50, 51, 52, 53, 54, 55, 56, 57, 58, 59, 60, 61, 62, 63] rfl (by decide) (fun u2 => Nat.le_of_ble_eq_true rfl) (ws' := fun u2 => lawW cI cS a b u.2 v w T C li ap va le (q 5) L P F sh kf u2.2) (fun u2 => rfl) (fun u2 hu2 => ?_)
  show Go E Q 4 cells slots 298 [(0, .ref bx), (1, .ref (a 0)), (2, .ref (b 0)), (3, .int (nI i))] [.int u2.1, .int u.1] (lawW cI cS a b u.2 v w T C li ap va le (q 5) L P F sh kf u2.2)
  obtain ⟨k, hR⟩ := hu2.2.1
  refine g_icmp_eq hE 1113 dL_law_298 (by decide) (fun _ => ?_) (fun z => absurd ((congrArg Prod.fst hu).trans hu2.1.symm) z)
  exact kk _ _ _ _ _ _ _ _ _ _ _ _ _ _ _ _ (REL_of (by rw [show u.2 = (fgSieve m sv (xs (i + 1)) (xs (i + 2)) (xs (i + 3)) (xs (i + 4))).2 from congrArg Prod.snd hu]; exact hR) hV hW hL htp hBn hSQ hKQ hu2.2.2)
set_option maxHeartbeats 4000000 in
set_option maxRecDepth 100000 in
theorem law_told {E : CX} {Q : State → Prop} {cI cS : ClassId} {bx Lx i cells slots : Nat} {xs : Nat → Int32} (hE : CxOk E cI cS RL cL_law 4 (some .boolean) 20 600000 7302250) (hZ : ScrOk E bx Lx xs) (hLx : Lx ≤ 3072) (hi : i + 6 ≤ Lx) (hc : cells ≤ 600000) (hs : slots ≤ 7302250) {a b : Nat → Nat} (kk : LGo E Q cells slots cI cS a b bx i) {m v w : MS} {T C : Nat → Int32} {li ap va le : Int32} {B : Nat → Int32} {L P : Nat} {F : Int32} {sh : SHS} {kf : Int32} {q : MS} (hREL : REL m v w B L sh kf q) : Go E Q 4 cells slots 303 [(0, .ref bx), (1, .ref (a 0)), (2, .ref (b 0)), (3, .int (nI i))] [] (lawW cI cS a b m v w T C li ap va le B L P F sh kf q) := by
  obtain ⟨n, sv, pl, n1, sv1, pl1, n2, sv2, pl2, nw, sw, pw, hRQ, hV, hW, hL, hB5, htp, hBn, hSQ, hKQ⟩ := hREL
  subst hB5
  refine g_aload_n hE dL_law_303 1 rfl ?_
  refine g_arg hE hZ 1 rfl rfl rfl (by omega) hLx dL_law_304 dL_law_305 dL_law_306 dL_law_307 dL_law_308 ?_
  refine g_arg hE hZ 2 rfl rfl rfl (by omega) hLx dL_law_309 dL_law_310 dL_law_311 dL_law_312 dL_law_313 ?_
  refine g_callV hE (c_X4_told cI cS a m v w T C li ap va le (q 5) L P F sh kf hRQ.1 hV hW hL (xs (i + 1)) (xs (i + 2)) ) mk_X4_told mv_X4_told ml_L_27 dL_law_314 (As := [.int (xs (i + 1)), .int (xs (i + 2))]) (rest := []) rfl rfl 0 rfl (show vwCl[4]? = some (RX4, TX4, 7) from rfl) (by decide) (by decide) (Nat.le_of_ble_eq_true rfl) hc hs [0, 1, 2, 3, 4, 5, 6, 7, 8, 9, 10, 11, 12, 13, 14, 15, 16, 17, 18, 19, 20, 21, 22, 23, 24, 25, 26, 27, 28, 29, 30, 31, 32, 33, 34, 35, 36, 37, 38, 39, 40, 41, 42, 43, 44] rfl (by decide) (fun u => Nat.le_of_ble_eq_true rfl) (ws' := fun u => lawW cI cS a b m v w T C li ap va le (q 5) L P F sh kf q) (fun u => rfl) (fun u hu => ?_)
  show Go E Q 4 cells slots 317 [(0, .ref bx), (1, .ref (a 0)), (2, .ref (b 0)), (3, .int (nI i))] [.int u] (lawW cI cS a b m v w T C li ap va le (q 5) L P F sh kf q)
  refine g_aload_n hE dL_law_317 2 rfl ?_
  refine g_arg hE hZ 1 rfl rfl rfl (by omega) hLx dL_law_318 dL_law_319 dL_law_320 dL_law_321 dL_law_322 ?_
  refine g_arg hE hZ 2 rfl rfl rfl (by omega) hLx dL_law_323 dL_law_324 dL_law_325 dL_law_326 dL_law_327 ?_
  refine g_callV hE (c_X5_told cI cS b q m hRQ (xs (i + 1)) (xs (i + 2))) mk_X5_told mv_X5_told ml_L_31 dL_law_328 (As := [.int (xs (i + 1)), .int (xs (i + 2))]) (rest := [.int u]) rfl rfl 45 rfl (show vwCl[5]? = some (RX5, TX5, 32) from rfl) (by decide) (by decide) (Nat.le_of_ble_eq_true rfl) hc hs [45, 46, 47, 48, 49, 50, 51, 52, 53, 54, 55, 56, 57, 58, 59, 60, 61, 62, 63] rfl (by decide) (fun u2 => Nat.le_of_ble_eq_true rfl) (ws' := fun u2 => lawW cI cS a b m v w T C li ap va le (q 5) L P F sh kf u2.2) (fun u2 => rfl) (fun u2 hu2 => ?_)
  show Go E Q 4 cells slots 331 [(0, .ref bx), (1, .ref (a 0)), (2, .ref (b 0)), (3, .int (nI i))] [.int u2.1, .int u] (lawW cI cS a b m v w T C li ap va le (q 5) L P F sh kf u2.2)
  refine g_icmp_eq hE 1113 dL_law_331 (by decide) (fun _ => ?_) (fun z => absurd (hu.trans hu2.1.symm) z)
  exact kk _ _ _ _ _ _ _ _ _ _ _ _ _ _ _ _ (REL_of (TF_RQ hu2.2.1 hRQ) hV hW hL htp hBn hSQ hKQ hu2.2.2)
set_option maxHeartbeats 4000000 in
set_option maxRecDepth 100000 in
theorem law_mend {E : CX} {Q : State → Prop} {cI cS : ClassId} {bx Lx i cells slots : Nat} {xs : Nat → Int32} (hE : CxOk E cI cS RL cL_law 4 (some .boolean) 20 600000 7302250) (hZ : ScrOk E bx Lx xs) (hLx : Lx ≤ 3072) (hi : i + 6 ≤ Lx) (hc : cells ≤ 600000) (hs : slots ≤ 7302250) {a b : Nat → Nat} (kk : LGo E Q cells slots cI cS a b bx i) {m v w : MS} {T C : Nat → Int32} {li ap va le : Int32} {B : Nat → Int32} {L P : Nat} {F : Int32} {sh : SHS} {kf : Int32} {q : MS} (hREL : REL m v w B L sh kf q) : Go E Q 4 cells slots 336 [(0, .ref bx), (1, .ref (a 0)), (2, .ref (b 0)), (3, .int (nI i))] [] (lawW cI cS a b m v w T C li ap va le B L P F sh kf q) := by
  obtain ⟨n, sv, pl, n1, sv1, pl1, n2, sv2, pl2, nw, sw, pw, hRQ, hV, hW, hL, hB5, htp, hBn, hSQ, hKQ⟩ := hREL
  subst hB5
  refine g_aload_n hE dL_law_336 1 rfl ?_
  refine g_arg hE hZ 1 rfl rfl rfl (by omega) hLx dL_law_337 dL_law_338 dL_law_339 dL_law_340 dL_law_341 ?_
  refine g_arg hE hZ 2 rfl rfl rfl (by omega) hLx dL_law_342 dL_law_343 dL_law_344 dL_law_345 dL_law_346 ?_
  refine g_callV hE (c_X4_mend cI cS a m v w T C li ap va le (q 5) L P F sh kf hRQ.1 hV hW hL (xs (i + 1)) (xs (i + 2)) ) mk_X4_mend mv_X4_mend ml_L_32 dL_law_347 (As := [.int (xs (i + 1)), .int (xs (i + 2))]) (rest := []) rfl rfl 0 rfl (show vwCl[4]? = some (RX4, TX4, 7) from rfl) (by decide) (by decide) (Nat.le_of_ble_eq_true rfl) hc hs [0, 1, 2, 3, 4, 5, 6, 7, 8, 9, 10, 11, 12, 13, 14, 15, 16, 17, 18, 19, 20, 21, 22, 23, 24, 25, 26, 27, 28, 29, 30, 31, 32, 33, 34, 35, 36, 37, 38, 39, 40, 41, 42, 43, 44] rfl (by decide) (fun u => Nat.le_of_ble_eq_true rfl) (ws' := fun u => lawW cI cS a b u.2 v w T C li ap va le (q 5) L P F sh kf q) (fun u => rfl) (fun u hu => ?_)
  show Go E Q 4 cells slots 350 [(0, .ref bx), (1, .ref (a 0)), (2, .ref (b 0)), (3, .int (nI i))] [.int u.1] (lawW cI cS a b u.2 v w T C li ap va le (q 5) L P F sh kf q)
  refine g_aload_n hE dL_law_350 2 rfl ?_
  refine g_arg hE hZ 1 rfl rfl rfl (by omega) hLx dL_law_351 dL_law_352 dL_law_353 dL_law_354 dL_law_355 ?_
  refine g_arg hE hZ 2 rfl rfl rfl (by omega) hLx dL_law_356 dL_law_357 dL_law_358 dL_law_359 dL_law_360 ?_
  refine g_callV hE (c_X5_mend cI cS b q m hRQ (xs (i + 1)) (xs (i + 2))) mk_X5_mend mv_X5_mend ml_L_35 dL_law_361 (As := [.int (xs (i + 1)), .int (xs (i + 2))]) (rest := [.int u.1]) rfl rfl 45 rfl (show vwCl[5]? = some (RX5, TX5, 32) from rfl) (by decide) (by decide) (Nat.le_of_ble_eq_true rfl) hc hs [45, 46, 47, 48, 49, 50, 51, 52, 53, 54, 55, 56, 57, 58, 59, 60, 61, 62, 63] rfl (by decide) (fun u2 => Nat.le_of_ble_eq_true rfl) (ws' := fun u2 => lawW cI cS a b u.2 v w T C li ap va le (q 5) L P F sh kf u2.2) (fun u2 => rfl) (fun u2 hu2 => ?_)
  show Go E Q 4 cells slots 364 [(0, .ref bx), (1, .ref (a 0)), (2, .ref (b 0)), (3, .int (nI i))] [.int u2.1, .int u.1] (lawW cI cS a b u.2 v w T C li ap va le (q 5) L P F sh kf u2.2)
  refine g_icmp_eq hE 1113 dL_law_364 (by decide) (fun _ => ?_) (fun z => absurd ((congrArg Prod.fst hu).trans hu2.1.symm) z)
  exact kk _ _ _ _ _ _ _ _ _ _ _ _ _ _ _ _ (REL_of (by rw [show u.2 = (fgMend m (xs (i + 1)) (xs (i + 2))).2 from congrArg Prod.snd hu]; exact hu2.2.1) hV hW hL htp hBn hSQ hKQ hu2.2.2)
set_option maxHeartbeats 4000000 in
set_option maxRecDepth 100000 in
theorem law_type {E : CX} {Q : State → Prop} {cI cS : ClassId} {bx Lx i cells slots : Nat} {xs : Nat → Int32} (hE : CxOk E cI cS RL cL_law 4 (some .boolean) 20 600000 7302250) (hZ : ScrOk E bx Lx xs) (hLx : Lx ≤ 3072) (hi : i + 6 ≤ Lx) (hc : cells ≤ 600000) (hs : slots ≤ 7302250) {a b : Nat → Nat} (kk : LGo E Q cells slots cI cS a b bx i) {m v w : MS} {T C : Nat → Int32} {li ap va le : Int32} {B : Nat → Int32} {L P : Nat} {F : Int32} {sh : SHS} {kf : Int32} {q : MS} (hREL : REL m v w B L sh kf q) : Go E Q 4 cells slots 369 [(0, .ref bx), (1, .ref (a 0)), (2, .ref (b 0)), (3, .int (nI i))] [] (lawW cI cS a b m v w T C li ap va le B L P F sh kf q) := by
  obtain ⟨n, sv, pl, n1, sv1, pl1, n2, sv2, pl2, nw, sw, pw, hRQ, hV, hW, hL, hB5, htp, hBn, hSQ, hKQ⟩ := hREL
  subst hB5
  refine g_aload_n hE dL_law_369 1 rfl ?_
  refine g_arg hE hZ 1 rfl rfl rfl (by omega) hLx dL_law_370 dL_law_371 dL_law_372 dL_law_373 dL_law_374 ?_
  refine g_i2l hE dL_law_375 ?_
  refine g_bipush hE dL_law_376 32 (by decide) ?_
  refine g_lshl hE dL_law_378 ?_
  refine g_arg hE hZ 2 rfl rfl rfl (by omega) hLx dL_law_379 dL_law_380 dL_law_381 dL_law_382 dL_law_383 ?_
  refine g_i2l hE dL_law_384 ?_
  refine g_ldc2 hE dL_law_385 cl_L_36 ?_
  refine g_land hE dL_law_388 ?_
  refine g_lor hE dL_law_389 ?_
  refine g_arg hE hZ 3 rfl rfl rfl (by omega) hLx dL_law_390 dL_law_391 dL_law_392 dL_law_393 dL_law_394 ?_
  refine g_callV hE (c_X4_type cI cS a m v w T C li ap va le (q 5) L P F sh kf hRQ.1 hV hW hL (((Int32.toInt64 (xs (i + 1))) <<< (Int32.toInt64 32 &&& 63)) ||| ((Int32.toInt64 (xs (i + 2))) &&& 4294967295)) (xs (i + 3)) ) mk_X4_type mv_X4_type ml_L_38 dL_law_395 (As := [.long (((Int32.toInt64 (xs (i + 1))) <<< (Int32.toInt64 32 &&& 63)) ||| ((Int32.toInt64 (xs (i + 2))) &&& 4294967295)), .int (xs (i + 3))]) (rest := []) rfl rfl 0 rfl (show vwCl[4]? = some (RX4, TX4, 7) from rfl) (by decide) (by decide) (Nat.le_of_ble_eq_true rfl) hc hs [0, 1, 2, 3, 4, 5, 6, 7, 8, 9, 10, 11, 12, 13, 14, 15, 16, 17, 18, 19, 20, 21, 22, 23, 24, 25, 26, 27, 28, 29, 30, 31, 32, 33, 34, 35, 36, 37, 38, 39, 40, 41, 42, 43, 44] rfl (by decide) (fun u => Nat.le_of_ble_eq_true rfl) (ws' := fun u => lawW cI cS a b m v w T C li ap va le u.2.1 u.2.2 P F sh kf q) (fun u => rfl) (fun u hu => ?_)
  show Go E Q 4 cells slots 398 [(0, .ref bx), (1, .ref (a 0)), (2, .ref (b 0)), (3, .int (nI i))] [.int u.1] (lawW cI cS a b m v w T C li ap va le u.2.1 u.2.2 P F sh kf q)
  refine g_aload_n hE dL_law_398 2 rfl ?_
  refine g_arg hE hZ 1 rfl rfl rfl (by omega) hLx dL_law_399 dL_law_400 dL_law_401 dL_law_402 dL_law_403 ?_
  refine g_i2l hE dL_law_404 ?_
  refine g_bipush hE dL_law_405 32 (by decide) ?_
  refine g_lshl hE dL_law_407 ?_
  refine g_arg hE hZ 2 rfl rfl rfl (by omega) hLx dL_law_408 dL_law_409 dL_law_410 dL_law_411 dL_law_412 ?_
  refine g_i2l hE dL_law_413 ?_
  refine g_ldc2 hE dL_law_414 cl_L_36 ?_
  refine g_land hE dL_law_417 ?_
  refine g_lor hE dL_law_418 ?_
  refine g_arg hE hZ 3 rfl rfl rfl (by omega) hLx dL_law_419 dL_law_420 dL_law_421 dL_law_422 dL_law_423 ?_
  refine g_callV hE (c_X5_type cI cS b q htp hL (((Int32.toInt64 (xs (i + 1))) <<< (Int32.toInt64 32 &&& 63)) ||| ((Int32.toInt64 (xs (i + 2))) &&& 4294967295)) (xs (i + 3))) mk_X5_type mv_X5_type ml_L_42 dL_law_424 (As := [.long (((Int32.toInt64 (xs (i + 1))) <<< (Int32.toInt64 32 &&& 63)) ||| ((Int32.toInt64 (xs (i + 2))) &&& 4294967295)), .int (xs (i + 3))]) (rest := [.int u.1]) rfl rfl 45 rfl (show vwCl[5]? = some (RX5, TX5, 32) from rfl) (by decide) (by decide) (Nat.le_of_ble_eq_true rfl) hc hs [45, 46, 47, 48, 49, 50, 51, 52, 53, 54, 55, 56, 57, 58, 59, 60, 61, 62, 63] rfl (by decide) (fun u2 => Nat.le_of_ble_eq_true rfl) (ws' := fun u2 => lawW cI cS a b m v w T C li ap va le u.2.1 u.2.2 P F sh kf (pA (pA q 5 u2.2.1) 18 (upd (q 18) 4 (nI u2.2.2)))) (fun u2 => rfl) (fun u2 hu2 => ?_)
  show Go E Q 4 cells slots 427 [(0, .ref bx), (1, .ref (a 0)), (2, .ref (b 0)), (3, .int (nI i))] [.int u2.1, .int u.1] (lawW cI cS a b m v w T C li ap va le u.2.1 u.2.2 P F sh kf (pA (pA q 5 u2.2.1) 18 (upd (q 18) 4 (nI u2.2.2))))
  refine g_icmp_eq hE 1113 dL_law_427 (by decide) (fun _ => ?_) (fun z => absurd ((congrArg Prod.fst hu.1).trans (congrArg Prod.fst hu2.1).symm) z)
  exact kk _ _ _ _ _ _ _ _ _ _ _ _ _ _ _ _ (by have e1 : u.2.1 = u2.2.1 := (congrArg (fun z => z.2.1) hu.1).trans (congrArg (fun z => z.2.1) hu2.1).symm; have e2 : u.2.2 = u2.2.2 := (congrArg (fun z => z.2.2) hu.1).trans (congrArg (fun z => z.2.2) hu2.1).symm; rw [e1, e2]; exact REL_type hRQ hV hW hu2.2 hBn hSQ hKQ hu2.1)
set_option maxHeartbeats 4000000 in
set_option maxRecDepth 100000 in
theorem law_loft {E : CX} {Q : State → Prop} {cI cS : ClassId} {bx Lx i cells slots : Nat} {xs : Nat → Int32} (hE : CxOk E cI cS RL cL_law 4 (some .boolean) 20 600000 7302250) (hZ : ScrOk E bx Lx xs) (hLx : Lx ≤ 3072) (hi : i + 6 ≤ Lx) (hc : cells ≤ 600000) (hs : slots ≤ 7302250) {a b : Nat → Nat} (kk : LGo E Q cells slots cI cS a b bx i) {m v w : MS} {T C : Nat → Int32} {li ap va le : Int32} {B : Nat → Int32} {L P : Nat} {F : Int32} {sh : SHS} {kf : Int32} {q : MS} (hREL : REL m v w B L sh kf q) : Go E Q 4 cells slots 432 [(0, .ref bx), (1, .ref (a 0)), (2, .ref (b 0)), (3, .int (nI i))] [] (lawW cI cS a b m v w T C li ap va le B L P F sh kf q) := by
  obtain ⟨n, sv, pl, n1, sv1, pl1, n2, sv2, pl2, nw, sw, pw, hRQ, hV, hW, hL, hB5, htp, hBn, hSQ, hKQ⟩ := hREL
  subst hB5
  refine g_aload_n hE dL_law_432 1 rfl ?_
  refine g_callV hE (c_X4_loft cI cS a m v w T C li ap va le (q 5) L P F sh kf hRQ.1 hV hW hL  ) mk_X4_loft mv_X4_loft ml_L_43 dL_law_433 (As := []) (rest := []) rfl rfl 0 rfl (show vwCl[4]? = some (RX4, TX4, 7) from rfl) (by decide) (by decide) (Nat.le_of_ble_eq_true rfl) hc hs [0, 1, 2, 3, 4, 5, 6, 7, 8, 9, 10, 11, 12, 13, 14, 15, 16, 17, 18, 19, 20, 21, 22, 23, 24, 25, 26, 27, 28, 29, 30, 31, 32, 33, 34, 35, 36, 37, 38, 39, 40, 41, 42, 43, 44] rfl (by decide) (fun u => Nat.le_of_ble_eq_true rfl) (ws' := fun u => lawW cI cS a b u.2 (rlS (q 5) L 8 1 0 0 (-1) (pA v 9 (upd (v 9) 1 0))).2.2 w T C li ap va le (q 5) 0 (sk (q 5) L (rlS (q 5) L 8 1 0 0 (-1) (pA v 9 (upd (v 9) 1 0))).1) (enF (q 5) L (rlS (q 5) L 8 1 0 0 (-1) (pA v 9 (upd (v 9) 1 0))).1 (rlS (q 5) L 8 1 0 0 (-1) (pA v 9 (upd (v 9) 1 0))).2.1) sh kf q) (fun u => rfl) (fun u hu => ?_)
  show Go E Q 4 cells slots 436 [(0, .ref bx), (1, .ref (a 0)), (2, .ref (b 0)), (3, .int (nI i))] [.int u.1] (lawW cI cS a b u.2 (rlS (q 5) L 8 1 0 0 (-1) (pA v 9 (upd (v 9) 1 0))).2.2 w T C li ap va le (q 5) 0 (sk (q 5) L (rlS (q 5) L 8 1 0 0 (-1) (pA v 9 (upd (v 9) 1 0))).1) (enF (q 5) L (rlS (q 5) L 8 1 0 0 (-1) (pA v 9 (upd (v 9) 1 0))).1 (rlS (q 5) L 8 1 0 0 (-1) (pA v 9 (upd (v 9) 1 0))).2.1) sh kf q)
  refine g_aload_n hE dL_law_436 2 rfl ?_
  refine g_callV hE (c_X5_loft cI cS b q htp hL m hRQ v hBn ) mk_X5_loft mv_X5_loft ml_L_47 dL_law_437 (As := []) (rest := [.int u.1]) rfl rfl 45 rfl (show vwCl[5]? = some (RX5, TX5, 32) from rfl) (by decide) (by decide) (Nat.le_of_ble_eq_true rfl) hc hs [45, 46, 47, 48, 49, 50, 51, 52, 53, 54, 55, 56, 57, 58, 59, 60, 61, 62, 63] rfl (by decide) (fun u2 => Nat.le_of_ble_eq_true rfl) (ws' := fun u2 => lawW cI cS a b u.2 (rlS (q 5) L 8 1 0 0 (-1) (pA v 9 (upd (v 9) 1 0))).2.2 w T C li ap va le (q 5) 0 (sk (q 5) L (rlS (q 5) L 8 1 0 0 (-1) (pA v 9 (upd (v 9) 1 0))).1) (enF (q 5) L (rlS (q 5) L 8 1 0 0 (-1) (pA v 9 (upd (v 9) 1 0))).1 (rlS (q 5) L 8 1 0 0 (-1) (pA v 9 (upd (v 9) 1 0))).2.1) sh kf u2.2) (fun u2 => rfl) (fun u2 hu2 => ?_)
  show Go E Q 4 cells slots 440 [(0, .ref bx), (1, .ref (a 0)), (2, .ref (b 0)), (3, .int (nI i))] [.int u2.1, .int u.1] (lawW cI cS a b u.2 (rlS (q 5) L 8 1 0 0 (-1) (pA v 9 (upd (v 9) 1 0))).2.2 w T C li ap va le (q 5) 0 (sk (q 5) L (rlS (q 5) L 8 1 0 0 (-1) (pA v 9 (upd (v 9) 1 0))).1) (enF (q 5) L (rlS (q 5) L 8 1 0 0 (-1) (pA v 9 (upd (v 9) 1 0))).1 (rlS (q 5) L 8 1 0 0 (-1) (pA v 9 (upd (v 9) 1 0))).2.1) sh kf u2.2)
  obtain ⟨k1, k2, k3, hR⟩ := hu2.2.1
  obtain ⟨j, hj, hVj⟩ := hu.2
  refine g_icmp_eq hE 1113 dL_law_440 (by decide) (fun _ => ?_) (fun z => absurd ((congrArg Prod.fst hu.1).trans hu2.1.symm) z)
  exact kk _ _ _ _ _ _ _ _ _ _ _ _ _ _ _ _ (REL_ot (by rw [show u.2 = (fgLoft m v (q 5) L).2 from congrArg Prod.snd hu.1]; exact hR) hVj hW hSQ hKQ hu2.2.2)
set_option maxHeartbeats 4000000 in
set_option maxRecDepth 100000 in
theorem law_heap {E : CX} {Q : State → Prop} {cI cS : ClassId} {bx Lx i cells slots : Nat} {xs : Nat → Int32} (hE : CxOk E cI cS RL cL_law 4 (some .boolean) 20 600000 7302250) (hZ : ScrOk E bx Lx xs) (hLx : Lx ≤ 3072) (hi : i + 6 ≤ Lx) (hc : cells ≤ 600000) (hs : slots ≤ 7302250) {a b : Nat → Nat} (kk : LGo E Q cells slots cI cS a b bx i) {m v w : MS} {T C : Nat → Int32} {li ap va le : Int32} {B : Nat → Int32} {L P : Nat} {F : Int32} {sh : SHS} {kf : Int32} {q : MS} (hREL : REL m v w B L sh kf q) : Go E Q 4 cells slots 445 [(0, .ref bx), (1, .ref (a 0)), (2, .ref (b 0)), (3, .int (nI i))] [] (lawW cI cS a b m v w T C li ap va le B L P F sh kf q) := by
  obtain ⟨n, sv, pl, n1, sv1, pl1, n2, sv2, pl2, nw, sw, pw, hRQ, hV, hW, hL, hB5, htp, hBn, hSQ, hKQ⟩ := hREL
  subst hB5
  refine g_aload_n hE dL_law_445 1 rfl ?_
  refine g_callV hE (c_X4_heap cI cS a m v w T C li ap va le (q 5) L P F sh kf hRQ.1 hV hW hL  ) mk_X4_heap mv_X4_heap ml_L_48 dL_law_446 (As := []) (rest := []) rfl rfl 0 rfl (show vwCl[4]? = some (RX4, TX4, 7) from rfl) (by decide) (by decide) (Nat.le_of_ble_eq_true rfl) hc hs [0, 1, 2, 3, 4, 5, 6, 7, 8, 9, 10, 11, 12, 13, 14, 15, 16, 17, 18, 19, 20, 21, 22, 23, 24, 25, 26, 27, 28, 29, 30, 31, 32, 33, 34, 35, 36, 37, 38, 39, 40, 41, 42, 43, 44] rfl (by decide) (fun u => Nat.le_of_ble_eq_true rfl) (ws' := fun u => lawW cI cS a b u.2 (rhS (q 5) L 6 1 0 0 (-1) (pA v 9 (upd (v 9) 0 0))).2.2 w T C li ap va le (q 5) 0 (sk (q 5) L (rhS (q 5) L 6 1 0 0 (-1) (pA v 9 (upd (v 9) 0 0))).1) (enF (q 5) L (rhS (q 5) L 6 1 0 0 (-1) (pA v 9 (upd (v 9) 0 0))).1 (rhS (q 5) L 6 1 0 0 (-1) (pA v 9 (upd (v 9) 0 0))).2.1) sh kf q) (fun u => rfl) (fun u hu => ?_)
  show Go E Q 4 cells slots 449 [(0, .ref bx), (1, .ref (a 0)), (2, .ref (b 0)), (3, .int (nI i))] [.int u.1] (lawW cI cS a b u.2 (rhS (q 5) L 6 1 0 0 (-1) (pA v 9 (upd (v 9) 0 0))).2.2 w T C li ap va le (q 5) 0 (sk (q 5) L (rhS (q 5) L 6 1 0 0 (-1) (pA v 9 (upd (v 9) 0 0))).1) (enF (q 5) L (rhS (q 5) L 6 1 0 0 (-1) (pA v 9 (upd (v 9) 0 0))).1 (rhS (q 5) L 6 1 0 0 (-1) (pA v 9 (upd (v 9) 0 0))).2.1) sh kf q)
  refine g_aload_n hE dL_law_449 2 rfl ?_
  refine g_callV hE (c_X5_heap cI cS b q htp hL m hRQ v hBn ) mk_X5_heap mv_X5_heap ml_L_51 dL_law_450 (As := []) (rest := [.int u.1]) rfl rfl 45 rfl (show vwCl[5]? = some (RX5, TX5, 32) from rfl) (by decide) (by decide) (Nat.le_of_ble_eq_true rfl) hc hs [45, 46, 47, 48, 49, 50, 51, 52, 53, 54, 55, 56, 57, 58, 59, 60, 61, 62, 63] rfl (by decide) (fun u2 => Nat.le_of_ble_eq_true rfl) (ws' := fun u2 => lawW cI cS a b u.2 (rhS (q 5) L 6 1 0 0 (-1) (pA v 9 (upd (v 9) 0 0))).2.2 w T C li ap va le (q 5) 0 (sk (q 5) L (rhS (q 5) L 6 1 0 0 (-1) (pA v 9 (upd (v 9) 0 0))).1) (enF (q 5) L (rhS (q 5) L 6 1 0 0 (-1) (pA v 9 (upd (v 9) 0 0))).1 (rhS (q 5) L 6 1 0 0 (-1) (pA v 9 (upd (v 9) 0 0))).2.1) sh kf u2.2) (fun u2 => rfl) (fun u2 hu2 => ?_)
  show Go E Q 4 cells slots 453 [(0, .ref bx), (1, .ref (a 0)), (2, .ref (b 0)), (3, .int (nI i))] [.int u2.1, .int u.1] (lawW cI cS a b u.2 (rhS (q 5) L 6 1 0 0 (-1) (pA v 9 (upd (v 9) 0 0))).2.2 w T C li ap va le (q 5) 0 (sk (q 5) L (rhS (q 5) L 6 1 0 0 (-1) (pA v 9 (upd (v 9) 0 0))).1) (enF (q 5) L (rhS (q 5) L 6 1 0 0 (-1) (pA v 9 (upd (v 9) 0 0))).1 (rhS (q 5) L 6 1 0 0 (-1) (pA v 9 (upd (v 9) 0 0))).2.1) sh kf u2.2)
  obtain ⟨k1, k2, k3, hR⟩ := hu2.2.1
  obtain ⟨j, hj, hVj⟩ := hu.2
  refine g_icmp_eq hE 1113 dL_law_453 (by decide) (fun _ => ?_) (fun z => absurd ((congrArg Prod.fst hu.1).trans hu2.1.symm) z)
  exact kk _ _ _ _ _ _ _ _ _ _ _ _ _ _ _ _ (REL_ot (by rw [show u.2 = (fgHeap m v (q 5) L).2 from congrArg Prod.snd hu.1]; exact hR) hVj hW hSQ hKQ hu2.2.2)
set_option maxHeartbeats 4000000 in
set_option maxRecDepth 100000 in
theorem law_row {E : CX} {Q : State → Prop} {cI cS : ClassId} {bx Lx i cells slots : Nat} {xs : Nat → Int32} (hE : CxOk E cI cS RL cL_law 4 (some .boolean) 20 600000 7302250) (hZ : ScrOk E bx Lx xs) (hLx : Lx ≤ 3072) (hi : i + 6 ≤ Lx) (hc : cells ≤ 600000) (hs : slots ≤ 7302250) {a b : Nat → Nat} (kk : LGo E Q cells slots cI cS a b bx i) {m v w : MS} {T C : Nat → Int32} {li ap va le : Int32} {B : Nat → Int32} {L P : Nat} {F : Int32} {sh : SHS} {kf : Int32} {q : MS} (hREL : REL m v w B L sh kf q) : Go E Q 4 cells slots 458 [(0, .ref bx), (1, .ref (a 0)), (2, .ref (b 0)), (3, .int (nI i))] [] (lawW cI cS a b m v w T C li ap va le B L P F sh kf q) := by
  obtain ⟨n, sv, pl, n1, sv1, pl1, n2, sv2, pl2, nw, sw, pw, hRQ, hV, hW, hL, hB5, htp, hBn, hSQ, hKQ⟩ := hREL
  subst hB5
  refine g_aload_n hE dL_law_458 1 rfl ?_
  refine g_callV hE (c_X4_row cI cS a m v w T C li ap va le (q 5) L P F sh kf hRQ.1 hV hW hL  ) mk_X4_row mv_X4_row ml_L_52 dL_law_459 (As := []) (rest := []) rfl rfl 0 rfl (show vwCl[4]? = some (RX4, TX4, 7) from rfl) (by decide) (by decide) (Nat.le_of_ble_eq_true rfl) hc hs [0, 1, 2, 3, 4, 5, 6, 7, 8, 9, 10, 11, 12, 13, 14, 15, 16, 17, 18, 19, 20, 21, 22, 23, 24, 25, 26, 27, 28, 29, 30, 31, 32, 33, 34, 35, 36, 37, 38, 39, 40, 41, 42, 43, 44] rfl (by decide) (fun u => Nat.le_of_ble_eq_true rfl) (ws' := fun u => lawW cI cS a b u.2 (rrS (q 5) L (m 9 1) 6 1 0 0 (pA v 9 (upd (v 9) 2 0))).2.2 w T C li ap va le (q 5) 0 (sk (q 5) L (rrS (q 5) L (m 9 1) 6 1 0 0 (pA v 9 (upd (v 9) 2 0))).1) (enF (q 5) L (rrS (q 5) L (m 9 1) 6 1 0 0 (pA v 9 (upd (v 9) 2 0))).1 (-1)) sh kf q) (fun u => rfl) (fun u hu => ?_)
  show Go E Q 4 cells slots 462 [(0, .ref bx), (1, .ref (a 0)), (2, .ref (b 0)), (3, .int (nI i))] [.int u.1] (lawW cI cS a b u.2 (rrS (q 5) L (m 9 1) 6 1 0 0 (pA v 9 (upd (v 9) 2 0))).2.2 w T C li ap va le (q 5) 0 (sk (q 5) L (rrS (q 5) L (m 9 1) 6 1 0 0 (pA v 9 (upd (v 9) 2 0))).1) (enF (q 5) L (rrS (q 5) L (m 9 1) 6 1 0 0 (pA v 9 (upd (v 9) 2 0))).1 (-1)) sh kf q)
  refine g_aload_n hE dL_law_462 2 rfl ?_
  refine g_callV hE (c_X5_row cI cS b q htp hL m hRQ v hBn ) mk_X5_row mv_X5_row ml_L_55 dL_law_463 (As := []) (rest := [.int u.1]) rfl rfl 45 rfl (show vwCl[5]? = some (RX5, TX5, 32) from rfl) (by decide) (by decide) (Nat.le_of_ble_eq_true rfl) hc hs [45, 46, 47, 48, 49, 50, 51, 52, 53, 54, 55, 56, 57, 58, 59, 60, 61, 62, 63] rfl (by decide) (fun u2 => Nat.le_of_ble_eq_true rfl) (ws' := fun u2 => lawW cI cS a b u.2 (rrS (q 5) L (m 9 1) 6 1 0 0 (pA v 9 (upd (v 9) 2 0))).2.2 w T C li ap va le (q 5) 0 (sk (q 5) L (rrS (q 5) L (m 9 1) 6 1 0 0 (pA v 9 (upd (v 9) 2 0))).1) (enF (q 5) L (rrS (q 5) L (m 9 1) 6 1 0 0 (pA v 9 (upd (v 9) 2 0))).1 (-1)) sh kf u2.2) (fun u2 => rfl) (fun u2 hu2 => ?_)
  show Go E Q 4 cells slots 466 [(0, .ref bx), (1, .ref (a 0)), (2, .ref (b 0)), (3, .int (nI i))] [.int u2.1, .int u.1] (lawW cI cS a b u.2 (rrS (q 5) L (m 9 1) 6 1 0 0 (pA v 9 (upd (v 9) 2 0))).2.2 w T C li ap va le (q 5) 0 (sk (q 5) L (rrS (q 5) L (m 9 1) 6 1 0 0 (pA v 9 (upd (v 9) 2 0))).1) (enF (q 5) L (rrS (q 5) L (m 9 1) 6 1 0 0 (pA v 9 (upd (v 9) 2 0))).1 (-1)) sh kf u2.2)
  obtain ⟨k1, k2, k3, hR⟩ := hu2.2.1
  refine g_icmp_eq hE 1113 dL_law_466 (by decide) (fun _ => ?_) (fun z => absurd ((congrArg Prod.fst hu.1).trans hu2.1.symm) z)
  exact kk _ _ _ _ _ _ _ _ _ _ _ _ _ _ _ _ (REL_ot (by rw [show u.2 = (fgRow m v (q 5) L).2 from congrArg Prod.snd hu.1]; exact hR) hu.2.2 hW hSQ hKQ hu2.2.2)
set_option maxHeartbeats 4000000 in
set_option maxRecDepth 100000 in
theorem law_count {E : CX} {Q : State → Prop} {cI cS : ClassId} {bx Lx i cells slots : Nat} {xs : Nat → Int32} (hE : CxOk E cI cS RL cL_law 4 (some .boolean) 20 600000 7302250) (hZ : ScrOk E bx Lx xs) (hLx : Lx ≤ 3072) (hi : i + 6 ≤ Lx) (hc : cells ≤ 600000) (hs : slots ≤ 7302250) {a b : Nat → Nat} (kk : LGo E Q cells slots cI cS a b bx i) {m v w : MS} {T C : Nat → Int32} {li ap va le : Int32} {B : Nat → Int32} {L P : Nat} {F : Int32} {sh : SHS} {kf : Int32} {q : MS} (hREL : REL m v w B L sh kf q) : Go E Q 4 cells slots 471 [(0, .ref bx), (1, .ref (a 0)), (2, .ref (b 0)), (3, .int (nI i))] [] (lawW cI cS a b m v w T C li ap va le B L P F sh kf q) := by
  obtain ⟨n, sv, pl, n1, sv1, pl1, n2, sv2, pl2, nw, sw, pw, hRQ, hV, hW, hL, hB5, htp, hBn, hSQ, hKQ⟩ := hREL
  subst hB5
  refine g_aload_n hE dL_law_471 1 rfl ?_
  refine g_arg hE hZ 1 rfl rfl rfl (by omega) hLx dL_law_472 dL_law_473 dL_law_474 dL_law_475 dL_law_476 ?_
  refine g_callV hE (c_X4_count cI cS a m v w T C li ap va le (q 5) L P F sh kf hRQ.1 hV hW hL (xs (i + 1)) ) mk_X4_count mv_X4_count ml_L_56 dL_law_477 (As := [.int (xs (i + 1))]) (rest := []) rfl rfl 0 rfl (show vwCl[4]? = some (RX4, TX4, 7) from rfl) (by decide) (by decide) (Nat.le_of_ble_eq_true rfl) hc hs [0, 1, 2, 3, 4, 5, 6, 7, 8, 9, 10, 11, 12, 13, 14, 15, 16, 17, 18, 19, 20, 21, 22, 23, 24, 25, 26, 27, 28, 29, 30, 31, 32, 33, 34, 35, 36, 37, 38, 39, 40, 41, 42, 43, 44] rfl (by decide) (fun u => Nat.le_of_ble_eq_true rfl) (ws' := fun u => lawW cI cS a b m v w T C li ap va le (q 5) L P F sh kf q) (fun u => rfl) (fun u hu => ?_)
  show Go E Q 4 cells slots 480 [(0, .ref bx), (1, .ref (a 0)), (2, .ref (b 0)), (3, .int (nI i))] [.int u] (lawW cI cS a b m v w T C li ap va le (q 5) L P F sh kf q)
  refine g_aload_n hE dL_law_480 2 rfl ?_
  refine g_arg hE hZ 1 rfl rfl rfl (by omega) hLx dL_law_481 dL_law_482 dL_law_483 dL_law_484 dL_law_485 ?_
  refine g_callV hE (c_X5_count cI cS b q m hRQ (xs (i + 1))) mk_X5_count mv_X5_count ml_L_60 dL_law_486 (As := [.int (xs (i + 1))]) (rest := [.int u]) rfl rfl 45 rfl (show vwCl[5]? = some (RX5, TX5, 32) from rfl) (by decide) (by decide) (Nat.le_of_ble_eq_true rfl) hc hs [45, 46, 47, 48, 49, 50, 51, 52, 53, 54, 55, 56, 57, 58, 59, 60, 61, 62, 63] rfl (by decide) (fun u2 => Nat.le_of_ble_eq_true rfl) (ws' := fun u2 => lawW cI cS a b m v w T C li ap va le (q 5) L P F sh kf u2.2) (fun u2 => rfl) (fun u2 hu2 => ?_)
  show Go E Q 4 cells slots 489 [(0, .ref bx), (1, .ref (a 0)), (2, .ref (b 0)), (3, .int (nI i))] [.int u2.1, .int u] (lawW cI cS a b m v w T C li ap va le (q 5) L P F sh kf u2.2)
  refine g_icmp_eq hE 1113 dL_law_489 (by decide) (fun _ => ?_) (fun z => absurd (hu.trans hu2.1.symm) z)
  exact kk _ _ _ _ _ _ _ _ _ _ _ _ _ _ _ _ (REL_of (TF_RQ hu2.2.1 hRQ) hV hW hL htp hBn hSQ hKQ hu2.2.2)
set_option maxHeartbeats 4000000 in
set_option maxRecDepth 100000 in
theorem law_found {E : CX} {Q : State → Prop} {cI cS : ClassId} {bx Lx i cells slots : Nat} {xs : Nat → Int32} (hE : CxOk E cI cS RL cL_law 4 (some .boolean) 20 600000 7302250) (hZ : ScrOk E bx Lx xs) (hLx : Lx ≤ 3072) (hi : i + 6 ≤ Lx) (hc : cells ≤ 600000) (hs : slots ≤ 7302250) {a b : Nat → Nat} (kk : LGo E Q cells slots cI cS a b bx i) {m v w : MS} {T C : Nat → Int32} {li ap va le : Int32} {B : Nat → Int32} {L P : Nat} {F : Int32} {sh : SHS} {kf : Int32} {q : MS} (hREL : REL m v w B L sh kf q) : Go E Q 4 cells slots 494 [(0, .ref bx), (1, .ref (a 0)), (2, .ref (b 0)), (3, .int (nI i))] [] (lawW cI cS a b m v w T C li ap va le B L P F sh kf q) := by
  obtain ⟨n, sv, pl, n1, sv1, pl1, n2, sv2, pl2, nw, sw, pw, hRQ, hV, hW, hL, hB5, htp, hBn, hSQ, hKQ⟩ := hREL
  subst hB5
  refine g_aload_n hE dL_law_494 1 rfl ?_
  refine g_arg hE hZ 1 rfl rfl rfl (by omega) hLx dL_law_495 dL_law_496 dL_law_497 dL_law_498 dL_law_499 ?_
  refine g_arg hE hZ 2 rfl rfl rfl (by omega) hLx dL_law_500 dL_law_501 dL_law_502 dL_law_503 dL_law_504 ?_
  refine g_callV hE (c_X4_found cI cS a m v w T C li ap va le (q 5) L P F sh kf hRQ.1 hV hW hL (xs (i + 1)) (xs (i + 2)) ) mk_X4_found mv_X4_found ml_L_61 dL_law_505 (As := [.int (xs (i + 1)), .int (xs (i + 2))]) (rest := []) rfl rfl 0 rfl (show vwCl[4]? = some (RX4, TX4, 7) from rfl) (by decide) (by decide) (Nat.le_of_ble_eq_true rfl) hc hs [0, 1, 2, 3, 4, 5, 6, 7, 8, 9, 10, 11, 12, 13, 14, 15, 16, 17, 18, 19, 20, 21, 22, 23, 24, 25, 26, 27, 28, 29, 30, 31, 32, 33, 34, 35, 36, 37, 38, 39, 40, 41, 42, 43, 44] rfl (by decide) (fun u => Nat.le_of_ble_eq_true rfl) (ws' := fun u => lawW cI cS a b (pA m 8 u.2) v w T C li ap va le (q 5) L P F sh kf q) (fun u => rfl) (fun u hu => ?_)
  show Go E Q 4 cells slots 508 [(0, .ref bx), (1, .ref (a 0)), (2, .ref (b 0)), (3, .int (nI i))] [.int u.1] (lawW cI cS a b (pA m 8 u.2) v w T C li ap va le (q 5) L P F sh kf q)
  refine g_aload_n hE dL_law_508 2 rfl ?_
  refine g_arg hE hZ 1 rfl rfl rfl (by omega) hLx dL_law_509 dL_law_510 dL_law_511 dL_law_512 dL_law_513 ?_
  refine g_arg hE hZ 2 rfl rfl rfl (by omega) hLx dL_law_514 dL_law_515 dL_law_516 dL_law_517 dL_law_518 ?_
  refine g_callV hE (c_X5_found cI cS b q m hRQ (xs (i + 1)) (xs (i + 2))) mk_X5_found mv_X5_found ml_L_64 dL_law_519 (As := [.int (xs (i + 1)), .int (xs (i + 2))]) (rest := [.int u.1]) rfl rfl 45 rfl (show vwCl[5]? = some (RX5, TX5, 32) from rfl) (by decide) (by decide) (Nat.le_of_ble_eq_true rfl) hc hs [45, 46, 47, 48, 49, 50, 51, 52, 53, 54, 55, 56, 57, 58, 59, 60, 61, 62, 63] rfl (by decide) (fun u2 => Nat.le_of_ble_eq_true rfl) (ws' := fun u2 => lawW cI cS a b (pA m 8 u.2) v w T C li ap va le (q 5) L P F sh kf u2.2) (fun u2 => rfl) (fun u2 hu2 => ?_)
  show Go E Q 4 cells slots 522 [(0, .ref bx), (1, .ref (a 0)), (2, .ref (b 0)), (3, .int (nI i))] [.int u2.1, .int u.1] (lawW cI cS a b (pA m 8 u.2) v w T C li ap va le (q 5) L P F sh kf u2.2)
  refine g_icmp_eq hE 1113 dL_law_522 (by decide) (fun _ => ?_) (fun z => absurd (hu.trans hu2.1.symm) z)
  exact kk _ _ _ _ _ _ _ _ _ _ _ _ _ _ _ _ (REL_of (RQ_8 (TF_RQ hu2.2.1 hRQ)) hV hW hL htp hBn hSQ hKQ hu2.2.2)
set_option maxHeartbeats 4000000 in
set_option maxRecDepth 100000 in
theorem law_where {E : CX} {Q : State → Prop} {cI cS : ClassId} {bx Lx i cells slots : Nat} {xs : Nat → Int32} (hE : CxOk E cI cS RL cL_law 4 (some .boolean) 20 600000 7302250) (hZ : ScrOk E bx Lx xs) (hLx : Lx ≤ 3072) (hi : i + 6 ≤ Lx) (hc : cells ≤ 600000) (hs : slots ≤ 7302250) {a b : Nat → Nat} (kk : LGo E Q cells slots cI cS a b bx i) {m v w : MS} {T C : Nat → Int32} {li ap va le : Int32} {B : Nat → Int32} {L P : Nat} {F : Int32} {sh : SHS} {kf : Int32} {q : MS} (hREL : REL m v w B L sh kf q) : Go E Q 4 cells slots 527 [(0, .ref bx), (1, .ref (a 0)), (2, .ref (b 0)), (3, .int (nI i))] [] (lawW cI cS a b m v w T C li ap va le B L P F sh kf q) := by
  obtain ⟨n, sv, pl, n1, sv1, pl1, n2, sv2, pl2, nw, sw, pw, hRQ, hV, hW, hL, hB5, htp, hBn, hSQ, hKQ⟩ := hREL
  subst hB5
  refine g_aload_n hE dL_law_527 1 rfl ?_
  refine g_arg hE hZ 1 rfl rfl rfl (by omega) hLx dL_law_528 dL_law_529 dL_law_530 dL_law_531 dL_law_532 ?_
  refine g_callV hE (c_X4_where cI cS a m v w T C li ap va le (q 5) L P F sh kf hRQ.1 hV hW hL (xs (i + 1)) ) mk_X4_where mv_X4_where ml_L_65 dL_law_533 (As := [.int (xs (i + 1))]) (rest := []) rfl rfl 0 rfl (show vwCl[4]? = some (RX4, TX4, 7) from rfl) (by decide) (by decide) (Nat.le_of_ble_eq_true rfl) hc hs [0, 1, 2, 3, 4, 5, 6, 7, 8, 9, 10, 11, 12, 13, 14, 15, 16, 17, 18, 19, 20, 21, 22, 23, 24, 25, 26, 27, 28, 29, 30, 31, 32, 33, 34, 35, 36, 37, 38, 39, 40, 41, 42, 43, 44] rfl (by decide) (fun u => Nat.le_of_ble_eq_true rfl) (ws' := fun u => lawW cI cS a b (pA m 8 u.2) v w T C li ap va le (q 5) L P F sh kf q) (fun u => rfl) (fun u hu => ?_)
  show Go E Q 4 cells slots 536 [(0, .ref bx), (1, .ref (a 0)), (2, .ref (b 0)), (3, .int (nI i))] [.int u.1] (lawW cI cS a b (pA m 8 u.2) v w T C li ap va le (q 5) L P F sh kf q)
  refine g_aload_n hE dL_law_536 2 rfl ?_
  refine g_arg hE hZ 1 rfl rfl rfl (by omega) hLx dL_law_537 dL_law_538 dL_law_539 dL_law_540 dL_law_541 ?_
  refine g_callV hE (c_X5_where cI cS b q m hRQ (xs (i + 1))) mk_X5_where mv_X5_where ml_L_68 dL_law_542 (As := [.int (xs (i + 1))]) (rest := [.int u.1]) rfl rfl 45 rfl (show vwCl[5]? = some (RX5, TX5, 32) from rfl) (by decide) (by decide) (Nat.le_of_ble_eq_true rfl) hc hs [45, 46, 47, 48, 49, 50, 51, 52, 53, 54, 55, 56, 57, 58, 59, 60, 61, 62, 63] rfl (by decide) (fun u2 => Nat.le_of_ble_eq_true rfl) (ws' := fun u2 => lawW cI cS a b (pA m 8 u.2) v w T C li ap va le (q 5) L P F sh kf u2.2) (fun u2 => rfl) (fun u2 hu2 => ?_)
  show Go E Q 4 cells slots 545 [(0, .ref bx), (1, .ref (a 0)), (2, .ref (b 0)), (3, .int (nI i))] [.int u2.1, .int u.1] (lawW cI cS a b (pA m 8 u.2) v w T C li ap va le (q 5) L P F sh kf u2.2)
  refine g_icmp_eq hE 1113 dL_law_545 (by decide) (fun _ => ?_) (fun z => absurd (hu.trans hu2.1.symm) z)
  exact kk _ _ _ _ _ _ _ _ _ _ _ _ _ _ _ _ (REL_of (RQ_8 (TF_RQ hu2.2.1 hRQ)) hV hW hL htp hBn hSQ hKQ hu2.2.2)
set_option maxHeartbeats 4000000 in
set_option maxRecDepth 100000 in
theorem law_chokes {E : CX} {Q : State → Prop} {cI cS : ClassId} {bx Lx i cells slots : Nat} {xs : Nat → Int32} (hE : CxOk E cI cS RL cL_law 4 (some .boolean) 20 600000 7302250) (hZ : ScrOk E bx Lx xs) (hLx : Lx ≤ 3072) (hi : i + 6 ≤ Lx) (hc : cells ≤ 600000) (hs : slots ≤ 7302250) {a b : Nat → Nat} (kk : LGo E Q cells slots cI cS a b bx i) {m v w : MS} {T C : Nat → Int32} {li ap va le : Int32} {B : Nat → Int32} {L P : Nat} {F : Int32} {sh : SHS} {kf : Int32} {q : MS} (hREL : REL m v w B L sh kf q) : Go E Q 4 cells slots 550 [(0, .ref bx), (1, .ref (a 0)), (2, .ref (b 0)), (3, .int (nI i))] [] (lawW cI cS a b m v w T C li ap va le B L P F sh kf q) := by
  obtain ⟨n, sv, pl, n1, sv1, pl1, n2, sv2, pl2, nw, sw, pw, hRQ, hV, hW, hL, hB5, htp, hBn, hSQ, hKQ⟩ := hREL
  subst hB5
  refine g_aload_n hE dL_law_550 1 rfl ?_
  refine g_callV hE (c_X4_chokes cI cS a m v w T C li ap va le (q 5) L P F sh kf hRQ.1 hV hW hL  ) mk_X4_chokes mv_X4_chokes ml_L_69 dL_law_551 (As := []) (rest := []) rfl rfl 0 rfl (show vwCl[4]? = some (RX4, TX4, 7) from rfl) (by decide) (by decide) (Nat.le_of_ble_eq_true rfl) hc hs [0, 1, 2, 3, 4, 5, 6, 7, 8, 9, 10, 11, 12, 13, 14, 15, 16, 17, 18, 19, 20, 21, 22, 23, 24, 25, 26, 27, 28, 29, 30, 31, 32, 33, 34, 35, 36, 37, 38, 39, 40, 41, 42, 43, 44] rfl (by decide) (fun u => Nat.le_of_ble_eq_true rfl) (ws' := fun u => lawW cI cS a b m v w T C li ap va le (q 5) L P F sh kf q) (fun u => rfl) (fun u hu => ?_)
  show Go E Q 4 cells slots 554 [(0, .ref bx), (1, .ref (a 0)), (2, .ref (b 0)), (3, .int (nI i))] [.int u] (lawW cI cS a b m v w T C li ap va le (q 5) L P F sh kf q)
  refine g_aload_n hE dL_law_554 2 rfl ?_
  refine g_callV hE (c_X5_chokes cI cS b q m hRQ ) mk_X5_chokes mv_X5_chokes ml_L_72 dL_law_555 (As := []) (rest := [.int u]) rfl rfl 45 rfl (show vwCl[5]? = some (RX5, TX5, 32) from rfl) (by decide) (by decide) (Nat.le_of_ble_eq_true rfl) hc hs [45, 46, 47, 48, 49, 50, 51, 52, 53, 54, 55, 56, 57, 58, 59, 60, 61, 62, 63] rfl (by decide) (fun u2 => Nat.le_of_ble_eq_true rfl) (ws' := fun u2 => lawW cI cS a b m v w T C li ap va le (q 5) L P F sh kf u2.2) (fun u2 => rfl) (fun u2 hu2 => ?_)
  show Go E Q 4 cells slots 558 [(0, .ref bx), (1, .ref (a 0)), (2, .ref (b 0)), (3, .int (nI i))] [.int u2.1, .int u] (lawW cI cS a b m v w T C li ap va le (q 5) L P F sh kf u2.2)
  refine g_icmp_eq hE 1113 dL_law_558 (by decide) (fun _ => ?_) (fun z => absurd (hu.trans hu2.1.symm) z)
  exact kk _ _ _ _ _ _ _ _ _ _ _ _ _ _ _ _ (REL_of (TF_RQ hu2.2.1 hRQ) hV hW hL htp hBn hSQ hKQ hu2.2.2)
set_option maxHeartbeats 4000000 in
set_option maxRecDepth 100000 in
theorem law_shake {E : CX} {Q : State → Prop} {cI cS : ClassId} {bx Lx i cells slots : Nat} {xs : Nat → Int32} (hE : CxOk E cI cS RL cL_law 4 (some .boolean) 20 600000 7302250) (hZ : ScrOk E bx Lx xs) (hLx : Lx ≤ 3072) (hi : i + 6 ≤ Lx) (hc : cells ≤ 600000) (hs : slots ≤ 7302250) {a b : Nat → Nat} (kk : LGo E Q cells slots cI cS a b bx i) {m v w : MS} {T C : Nat → Int32} {li ap va le : Int32} {B : Nat → Int32} {L P : Nat} {F : Int32} {sh : SHS} {kf : Int32} {q : MS} (hREL : REL m v w B L sh kf q) : Go E Q 4 cells slots 563 [(0, .ref bx), (1, .ref (a 0)), (2, .ref (b 0)), (3, .int (nI i))] [] (lawW cI cS a b m v w T C li ap va le B L P F sh kf q) := by
  obtain ⟨n, sv, pl, n1, sv1, pl1, n2, sv2, pl2, nw, sw, pw, hRQ, hV, hW, hL, hB5, htp, hBn, hSQ, hKQ⟩ := hREL
  subst hB5
  refine g_aload_n hE dL_law_563 1 rfl ?_
  refine g_callV hE (c_X4_shake cI cS a m v w T C li ap va le (q 5) L P F sh kf hRQ.1 hV hW hL  ) mk_X4_shake mv_X4_shake ml_L_73 dL_law_564 (As := []) (rest := []) rfl rfl 0 rfl (show vwCl[4]? = some (RX4, TX4, 7) from rfl) (by decide) (by decide) (Nat.le_of_ble_eq_true rfl) hc hs [0, 1, 2, 3, 4, 5, 6, 7, 8, 9, 10, 11, 12, 13, 14, 15, 16, 17, 18, 19, 20, 21, 22, 23, 24, 25, 26, 27, 28, 29, 30, 31, 32, 33, 34, 35, 36, 37, 38, 39, 40, 41, 42, 43, 44] rfl (by decide) (fun u => Nat.le_of_ble_eq_true rfl) (ws' := fun u => lawW cI cS a b (shM m n (m 7) pl) v w T C li ap va le (q 5) L P F sh kf q) (fun u => rfl) (fun u hu => ?_)
  show Go E Q 4 cells slots 567 [(0, .ref bx), (1, .ref (a 0)), (2, .ref (b 0)), (3, .int (nI i))] [.int u] (lawW cI cS a b (shM m n (m 7) pl) v w T C li ap va le (q 5) L P F sh kf q)
  refine g_aload_n hE dL_law_567 2 rfl ?_
  refine g_callV hE (c_X5_shake cI cS b q m hRQ ) mk_X5_shake mv_X5_shake ml_L_76 dL_law_568 (As := []) (rest := [.int u]) rfl rfl 45 rfl (show vwCl[5]? = some (RX5, TX5, 32) from rfl) (by decide) (by decide) (Nat.le_of_ble_eq_true rfl) hc hs [45, 46, 47, 48, 49, 50, 51, 52, 53, 54, 55, 56, 57, 58, 59, 60, 61, 62, 63] rfl (by decide) (fun u2 => Nat.le_of_ble_eq_true rfl) (ws' := fun u2 => lawW cI cS a b (shM m n (m 7) pl) v w T C li ap va le (q 5) L P F sh kf u2.2) (fun u2 => rfl) (fun u2 hu2 => ?_)
  show Go E Q 4 cells slots 571 [(0, .ref bx), (1, .ref (a 0)), (2, .ref (b 0)), (3, .int (nI i))] [.int u2.1, .int u] (lawW cI cS a b (shM m n (m 7) pl) v w T C li ap va le (q 5) L P F sh kf u2.2)
  refine g_icmp_eq hE 1113 dL_law_571 (by decide) (fun _ => ?_) (fun z => absurd (hu.trans hu2.1.symm) z)
  exact kk _ _ _ _ _ _ _ _ _ _ _ _ _ _ _ _ (REL_of hu2.2.1 hV hW hL htp hBn hSQ hKQ hu2.2.2)
set_option maxHeartbeats 4000000 in
set_option maxRecDepth 100000 in
theorem law_lasts {E : CX} {Q : State → Prop} {cI cS : ClassId} {bx Lx i cells slots : Nat} {xs : Nat → Int32} (hE : CxOk E cI cS RL cL_law 4 (some .boolean) 20 600000 7302250) (hZ : ScrOk E bx Lx xs) (hLx : Lx ≤ 3072) (hi : i + 6 ≤ Lx) (hc : cells ≤ 600000) (hs : slots ≤ 7302250) {a b : Nat → Nat} (kk : LGo E Q cells slots cI cS a b bx i) {m v w : MS} {T C : Nat → Int32} {li ap va le : Int32} {B : Nat → Int32} {L P : Nat} {F : Int32} {sh : SHS} {kf : Int32} {q : MS} (hREL : REL m v w B L sh kf q) : Go E Q 4 cells slots 576 [(0, .ref bx), (1, .ref (a 0)), (2, .ref (b 0)), (3, .int (nI i))] [] (lawW cI cS a b m v w T C li ap va le B L P F sh kf q) := by
  obtain ⟨n, sv, pl, n1, sv1, pl1, n2, sv2, pl2, nw, sw, pw, hRQ, hV, hW, hL, hB5, htp, hBn, hSQ, hKQ⟩ := hREL
  subst hB5
  refine g_aload_n hE dL_law_576 1 rfl ?_
  refine g_callV hE (c_X4_lasts cI cS a m v w T C li ap va le (q 5) L P F sh kf hRQ.1 hV hW hL  ) mk_X4_lasts mv_X4_lasts ml_L_77 dL_law_577 (As := []) (rest := []) rfl rfl 0 rfl (show vwCl[4]? = some (RX4, TX4, 7) from rfl) (by decide) (by decide) (Nat.le_of_ble_eq_true rfl) hc hs [0, 1, 2, 3, 4, 5, 6, 7, 8, 9, 10, 11, 12, 13, 14, 15, 16, 17, 18, 19, 20, 21, 22, 23, 24, 25, 26, 27, 28, 29, 30, 31, 32, 33, 34, 35, 36, 37, 38, 39, 40, 41, 42, 43, 44] rfl (by decide) (fun u => Nat.le_of_ble_eq_true rfl) (ws' := fun u => lawW cI cS a b (pA m 8 u.2.1) u.2.2 w T C li ap va le (q 5) L P F sh kf q) (fun u => rfl) (fun u hu => ?_)
  show Go E Q 4 cells slots 580 [(0, .ref bx), (1, .ref (a 0)), (2, .ref (b 0)), (3, .int (nI i))] [.int u.1] (lawW cI cS a b (pA m 8 u.2.1) u.2.2 w T C li ap va le (q 5) L P F sh kf q)
  refine g_aload_n hE dL_law_580 2 rfl ?_
  refine g_callV hE (c_X5_lasts cI cS b q m hRQ ) mk_X5_lasts mv_X5_lasts ml_L_80 dL_law_581 (As := []) (rest := [.int u.1]) rfl rfl 45 rfl (show vwCl[5]? = some (RX5, TX5, 32) from rfl) (by decide) (by decide) (Nat.le_of_ble_eq_true rfl) hc hs [45, 46, 47, 48, 49, 50, 51, 52, 53, 54, 55, 56, 57, 58, 59, 60, 61, 62, 63] rfl (by decide) (fun u2 => Nat.le_of_ble_eq_true rfl) (ws' := fun u2 => lawW cI cS a b (pA m 8 u.2.1) u.2.2 w T C li ap va le (q 5) L P F sh kf u2.2) (fun u2 => rfl) (fun u2 hu2 => ?_)
  show Go E Q 4 cells slots 584 [(0, .ref bx), (1, .ref (a 0)), (2, .ref (b 0)), (3, .int (nI i))] [.int u2.1, .int u.1] (lawW cI cS a b (pA m 8 u.2.1) u.2.2 w T C li ap va le (q 5) L P F sh kf u2.2)
  refine g_icmp_eq hE 1113 dL_law_584 (by decide) (fun _ => ?_) (fun z => absurd (hu.1.trans hu2.1.symm) z)
  exact kk _ _ _ _ _ _ _ _ _ _ _ _ _ _ _ _ (REL_of (RQ_8 (TF_RQ hu2.2.1 hRQ)) hu.2 hW hL htp hBn hSQ hKQ hu2.2.2)
