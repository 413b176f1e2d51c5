theorem wm_13 : Cond.methodLink R_law 13 yX10_feed ∈ gm_tbl := gm_in_tbl 356 (by decide +kernel) (by decide +kernel)
theorem wm_17 : Cond.methodLink R_law 17 yX11_feed ∈ gm_tbl := gm_in_tbl 952 (by decide +kernel) (by decide +kernel)
theorem wm_18 : Cond.methodLink R_law 18 yX10_tram ∈ gm_tbl := gm_in_tbl 366 (by decide +kernel) (by decide +kernel)
theorem wm_22 : Cond.methodLink R_law 22 yX11_tram ∈ gm_tbl := gm_in_tbl 962 (by decide +kernel) (by decide +kernel)
theorem wm_23 : Cond.methodLink R_law 23 yX10_fault ∈ gm_tbl := gm_in_tbl 551 (by decide +kernel) (by decide +kernel)
theorem wm_26 : Cond.methodLink R_law 26 yX11_fault ∈ gm_tbl := gm_in_tbl 1030 (by decide +kernel) (by decide +kernel)
theorem wm_27 : Cond.methodLink R_law 27 yX10_told ∈ gm_tbl := gm_in_tbl 555 (by decide +kernel) (by decide +kernel)
theorem wm_30 : Cond.methodLink R_law 30 yX11_told ∈ gm_tbl := gm_in_tbl 1034 (by decide +kernel) (by decide +kernel)
theorem wm_31 : Cond.methodLink R_law 31 yX10_ruleOf ∈ gm_tbl := gm_in_tbl 609 (by decide +kernel) (by decide +kernel)
theorem wm_35 : Cond.methodLink R_law 35 yX11_ruleOf ∈ gm_tbl := gm_in_tbl 1126 (by decide +kernel) (by decide +kernel)
theorem wm_36 : Cond.methodLink R_law 36 yX10_rollOf ∈ gm_tbl := gm_in_tbl 626 (by decide +kernel) (by decide +kernel)
theorem wm_39 : Cond.methodLink R_law 39 yX11_rollOf ∈ gm_tbl := gm_in_tbl 1135 (by decide +kernel) (by decide +kernel)
theorem wm_40 : Cond.methodLink R_law 40 yX10_rider ∈ gm_tbl := gm_in_tbl 647 (by decide +kernel) (by decide +kernel)
theorem wm_43 : Cond.methodLink R_law 43 yX11_rider ∈ gm_tbl := gm_in_tbl 1155 (by decide +kernel) (by decide +kernel)
theorem wm_44 : Cond.methodLink R_law 44 yX10_lucky ∈ gm_tbl := gm_in_tbl 656 (by decide +kernel) (by decide +kernel)
theorem wm_47 : Cond.methodLink R_law 47 yX11_lucky ∈ gm_tbl := gm_in_tbl 1163 (by decide +kernel) (by decide +kernel)
theorem wm_48 : Cond.methodLink R_law 48 yX10_sell ∈ gm_tbl := gm_in_tbl 668 (by decide +kernel) (by decide +kernel)
theorem wm_51 : Cond.methodLink R_law 51 yX11_sell ∈ gm_tbl := gm_in_tbl 1171 (by decide +kernel) (by decide +kernel)
theorem wm_52 : Cond.methodLink R_law 52 yX10_line ∈ gm_tbl := gm_in_tbl 703 (by decide +kernel) (by decide +kernel)
theorem wm_55 : Cond.methodLink R_law 55 yX11_line ∈ gm_tbl := gm_in_tbl 1188 (by decide +kernel) (by decide +kernel)
theorem wm_56 : Cond.methodLink R_law 56 yX10_give ∈ gm_tbl := gm_in_tbl 707 (by decide +kernel) (by decide +kernel)
theorem wm_59 : Cond.methodLink R_law 59 yX11_give ∈ gm_tbl := gm_in_tbl 1193 (by decide +kernel) (by decide +kernel)
theorem wm_60 : Cond.methodLink R_law 60 yX10_rule ∈ gm_tbl := gm_in_tbl 715 (by decide +kernel) (by decide +kernel)
theorem wm_64 : Cond.methodLink R_law 64 yX11_rule ∈ gm_tbl := gm_in_tbl 1197 (by decide +kernel) (by decide +kernel)
theorem wm_65 : Cond.methodLink R_law 65 yX10_mode ∈ gm_tbl := gm_in_tbl 721 (by decide +kernel) (by decide +kernel)
theorem wm_68 : Cond.methodLink R_law 68 yX11_mode ∈ gm_tbl := gm_in_tbl 1201 (by decide +kernel) (by decide +kernel)
theorem wm_69 : Cond.methodLink R_law 69 yX10_roll ∈ gm_tbl := gm_in_tbl 725 (by decide +kernel) (by decide +kernel)
theorem wm_73 : Cond.methodLink R_law 73 yX11_roll ∈ gm_tbl := gm_in_tbl 1205 (by decide +kernel) (by decide +kernel)
theorem wm_74 : Cond.methodLink R_law 74 yX10_drift ∈ gm_tbl := gm_in_tbl 730 (by decide +kernel) (by decide +kernel)
theorem wm_77 : Cond.methodLink R_law 77 yX11_drift ∈ gm_tbl := gm_in_tbl 1210 (by decide +kernel) (by decide +kernel)
theorem wm_78 : Cond.methodLink R_law 78 yX10_undo ∈ gm_tbl := gm_in_tbl 747 (by decide +kernel) (by decide +kernel)
theorem wm_81 : Cond.methodLink R_law 81 yX11_undo ∈ gm_tbl := gm_in_tbl 1226 (by decide +kernel) (by decide +kernel)
theorem wm_82 : Cond.methodLink R_law 82 yX10_next ∈ gm_tbl := gm_in_tbl 755 (by decide +kernel) (by decide +kernel)
theorem wm_85 : Cond.methodLink R_law 85 yX11_next ∈ gm_tbl := gm_in_tbl 1230 (by decide +kernel) (by decide +kernel)
theorem wm_86 : Cond.methodLink R_law 86 yX10_upTo ∈ gm_tbl := gm_in_tbl 764 (by decide +kernel) (by decide +kernel)
theorem wm_89 : Cond.methodLink R_law 89 yX11_upTo ∈ gm_tbl := gm_in_tbl 1234 (by decide +kernel) (by decide +kernel)
theorem wm_90 : Cond.methodLink R_law 90 yX10_kth ∈ gm_tbl := gm_in_tbl 772 (by decide +kernel) (by decide +kernel)
theorem wm_93 : Cond.methodLink R_law 93 yX11_kth ∈ gm_tbl := gm_in_tbl 1238 (by decide +kernel) (by decide +kernel)
theorem wm_94 : Cond.methodLink R_law 94 yX10_waits ∈ gm_tbl := gm_in_tbl 780 (by decide +kernel) (by decide +kernel)
theorem wm_97 : Cond.methodLink R_law 97 yX11_waits ∈ gm_tbl := gm_in_tbl 1242 (by decide +kernel) (by decide +kernel)
theorem wm_98 : Cond.methodLink R_law 98 yX10_dry ∈ gm_tbl := gm_in_tbl 788 (by decide +kernel) (by decide +kernel)
theorem wm_101 : Cond.methodLink R_law 101 yX11_dry ∈ gm_tbl := gm_in_tbl 1246 (by decide +kernel) (by decide +kernel)
theorem wm_102 : Cond.methodLink R_law 102 yX10_see ∈ gm_tbl := gm_in_tbl 794 (by decide +kernel) (by decide +kernel)
theorem wm_106 : Cond.methodLink R_law 106 yX11_see ∈ gm_tbl := gm_in_tbl 1252 (by decide +kernel) (by decide +kernel)
theorem wm_107 : Cond.methodLink R_law 107 yX10_could ∈ gm_tbl := gm_in_tbl 802 (by decide +kernel) (by decide +kernel)
theorem wm_110 : Cond.methodLink R_law 110 yX11_could ∈ gm_tbl := gm_in_tbl 1256 (by decide +kernel) (by decide +kernel)
theorem wm_111 : Cond.methodLink R_law 111 yX10_write ∈ gm_tbl := gm_in_tbl 806 (by decide +kernel) (by decide +kernel)
theorem wm_114 : Cond.methodLink R_law 114 yX11_write ∈ gm_tbl := gm_in_tbl 1260 (by decide +kernel) (by decide +kernel)
theorem wm_115 : Cond.methodLink R_law 115 yX10_tear ∈ gm_tbl := gm_in_tbl 814 (by decide +kernel) (by decide +kernel)
theorem wm_118 : Cond.methodLink R_law 118 yX11_tear ∈ gm_tbl := gm_in_tbl 1264 (by decide +kernel) (by decide +kernel)
theorem wm_119 : Cond.methodLink R_law 119 yX10_judge ∈ gm_tbl := gm_in_tbl 818 (by decide +kernel) (by decide +kernel)
theorem wm_122 : Cond.methodLink R_law 122 yX11_judge ∈ gm_tbl := gm_in_tbl 1268 (by decide +kernel) (by decide +kernel)
theorem wm_123 : Cond.methodLink R_law 123 yX10_seed ∈ gm_tbl := gm_in_tbl 822 (by decide +kernel) (by decide +kernel)
theorem wm_126 : Cond.methodLink R_law 126 yX11_seed ∈ gm_tbl := gm_in_tbl 1272 (by decide +kernel) (by decide +kernel)
theorem wm_127 : Cond.methodLink R_law 127 yX10_keep ∈ gm_tbl := gm_in_tbl 826 (by decide +kernel) (by decide +kernel)
theorem wm_130 : Cond.methodLink R_law 130 yX11_keep ∈ gm_tbl := gm_in_tbl 1276 (by decide +kernel) (by decide +kernel)
theorem wm_131 : Cond.methodLink R_law 131 yX10_goBack ∈ gm_tbl := gm_in_tbl 830 (by decide +kernel) (by decide +kernel)
theorem wm_134 : Cond.methodLink R_law 134 yX11_goBack ∈ gm_tbl := gm_in_tbl 1280 (by decide +kernel) (by decide +kernel)
theorem cs_0 {p : Program} {l : Launch} {e : Env} {s : State} {m : MethodId} {args : Array Value} {below : List Frame} {meth : Method} {c : Code} {Q : State → Prop} {cf : gm_C} {adC adM : Nat → Nat} {b L : Nat} {xs : Nat → Int32} {C M : gm_M} {i : Nat} (F : gm_LF p s m args meth c cf adC adM b L xs) (hi : i + 5 ≤ L) (hL : L < 2 ^ 31) (R : px_R C M) (kk : ∀ C' M' : gm_M, px_R C' M' → gm_L p l e s m args below meth c Q cf adC adM C' M' 983 [(3, .int (nI i)), (2, .ref (adM 0)), (1, .ref (adC 0)), (0, .ref b)] []) : gm_L p l e s m args below meth c Q cf adC adM C M 164 [(3, .int (nI i)), (2, .ref (adM 0)), (1, .ref (adC 0)), (0, .ref b)] [] := by
  obtain ⟨x, C1, M1, h1, h2, R1⟩ := op_feed (xs (i + 1)) R
  refine la_aload F dl_164 rfl 2 rfl ?_
  refine la_arg (j := 1) F (by omega) hL rfl rfl rfl dl_165 dl_166 dl_167 dl_168 dl_169 ?_
  refine la_callC (As := [.int (xs (i + 1))]) (rest := []) F (Lt_feed_c l cf adC h1) wy_Lt_feed rfl wm_13 rfl ⟨Nat.le_of_ble_eq_true rfl, Nat.le_of_ble_eq_true rfl⟩ rfl (Nat.le_of_ble_eq_true rfl) dl_170 ?_
  refine la_aload F dl_173 rfl 1 rfl ?_
  refine la_arg (j := 1) F (by omega) hL rfl rfl rfl dl_174 dl_175 dl_176 dl_177 dl_178 ?_
  refine la_callM (As := [.int (xs (i + 1))]) (rest := [.int x]) F (Mo_feed_c l cf adM h2) wy_Mo_feed rfl wm_17 rfl ⟨Nat.le_of_ble_eq_true rfl, Nat.le_of_ble_eq_true rfl⟩ rfl (Nat.le_of_ble_eq_true rfl) dl_179 ?_
  exact la_eqI F 983 dl_182 (by decide) (kk _ _ R1)
theorem cs_1 {p : Program} {l : Launch} {e : Env} {s : State} {m : MethodId} {args : Array Value} {below : List Frame} {meth : Method} {c : Code} {Q : State → Prop} {cf : gm_C} {adC adM : Nat → Nat} {b L : Nat} {xs : Nat → Int32} {C M : gm_M} {i : Nat} (F : gm_LF p s m args meth c cf adC adM b L xs) (hi : i + 5 ≤ L) (hL : L < 2 ^ 31) (R : px_R C M) (kk : ∀ C' M' : gm_M, px_R C' M' → gm_L p l e s m args below meth c Q cf adC adM C' M' 983 [(3, .int (nI i)), (2, .ref (adM 0)), (1, .ref (adC 0)), (0, .ref b)] []) : gm_L p l e s m args below meth c Q cf adC adM C M 187 [(3, .int (nI i)), (2, .ref (adM 0)), (1, .ref (adC 0)), (0, .ref b)] [] := by
  obtain ⟨x, C1, M1, h1, h2, R1⟩ := op_tram (fl := 20000)  (Nat.le_refl _) R
  refine la_aload F dl_187 rfl 2 rfl ?_
  refine la_callC (As := []) (rest := []) F (Lt_tram_c l cf adC h1) wy_Lt_tram rfl wm_18 rfl ⟨Nat.le_of_ble_eq_true rfl, Nat.le_of_ble_eq_true rfl⟩ rfl (Nat.le_of_ble_eq_true rfl) dl_188 ?_
  refine la_aload F dl_191 rfl 1 rfl ?_
  refine la_callM (As := []) (rest := [.int x]) F (Mo_tram_c l cf adM h2) wy_Mo_tram rfl wm_22 rfl ⟨Nat.le_of_ble_eq_true rfl, Nat.le_of_ble_eq_true rfl⟩ rfl (Nat.le_of_ble_eq_true rfl) dl_192 ?_
  exact la_eqI F 983 dl_195 (by decide) (kk _ _ R1)
theorem cs_2 {p : Program} {l : Launch} {e : Env} {s : State} {m : MethodId} {args : Array Value} {below : List Frame} {meth : Method} {c : Code} {Q : State → Prop} {cf : gm_C} {adC adM : Nat → Nat} {b L : Nat} {xs : Nat → Int32} {C M : gm_M} {i : Nat} (F : gm_LF p s m args meth c cf adC adM b L xs) (hi : i + 5 ≤ L) (hL : L < 2 ^ 31) (R : px_R C M) (kk : ∀ C' M' : gm_M, px_R C' M' → gm_L p l e s m args below meth c Q cf adC adM C' M' 983 [(3, .int (nI i)), (2, .ref (adM 0)), (1, .ref (adC 0)), (0, .ref b)] []) : gm_L p l e s m args below meth c Q cf adC adM C M 200 [(3, .int (nI i)), (2, .ref (adM 0)), (1, .ref (adC 0)), (0, .ref b)] [] := by
  obtain ⟨x, h1, h2⟩ := op_fault R
  refine la_aload F dl_200 rfl 2 rfl ?_
  refine la_callC (As := []) (rest := []) F (Lt_fault_c l cf adC h1) wy_Lt_fault rfl wm_23 rfl ⟨Nat.le_of_ble_eq_true rfl, Nat.le_of_ble_eq_true rfl⟩ rfl (Nat.le_of_ble_eq_true rfl) dl_201 ?_
  refine la_aload F dl_204 rfl 1 rfl ?_
  refine la_callM (As := []) (rest := [.int x]) F (Mo_fault_c l cf adM h2) wy_Mo_fault rfl wm_26 rfl ⟨Nat.le_of_ble_eq_true rfl, Nat.le_of_ble_eq_true rfl⟩ rfl (Nat.le_of_ble_eq_true rfl) dl_205 ?_
  exact la_eqI F 983 dl_208 (by decide) (kk _ _ R)
theorem cs_3 {p : Program} {l : Launch} {e : Env} {s : State} {m : MethodId} {args : Array Value} {below : List Frame} {meth : Method} {c : Code} {Q : State → Prop} {cf : gm_C} {adC adM : Nat → Nat} {b L : Nat} {xs : Nat → Int32} {C M : gm_M} {i : Nat} (F : gm_LF p s m args meth c cf adC adM b L xs) (hi : i + 5 ≤ L) (hL : L < 2 ^ 31) (R : px_R C M) (kk : ∀ C' M' : gm_M, px_R C' M' → gm_L p l e s m args below meth c Q cf adC adM C' M' 983 [(3, .int (nI i)), (2, .ref (adM 0)), (1, .ref (adC 0)), (0, .ref b)] []) : gm_L p l e s m args below meth c Q cf adC adM C M 213 [(3, .int (nI i)), (2, .ref (adM 0)), (1, .ref (adC 0)), (0, .ref b)] [] := by
  obtain ⟨x, C1, h1, h2, R1⟩ := op_told (fl := 20000) (xs (i + 1)) (Nat.le_refl _) R
  refine la_aload F dl_213 rfl 2 rfl ?_
  refine la_arg (j := 1) F (by omega) hL rfl rfl rfl dl_214 dl_215 dl_216 dl_217 dl_218 ?_
  refine la_callC (As := [.int (xs (i + 1))]) (rest := []) F (Lt_told_c l cf adC h1) wy_Lt_told rfl wm_27 rfl ⟨Nat.le_of_ble_eq_true rfl, Nat.le_of_ble_eq_true rfl⟩ rfl (Nat.le_of_ble_eq_true rfl) dl_219 ?_
  refine la_aload F dl_222 rfl 1 rfl ?_
  refine la_arg (j := 1) F (by omega) hL rfl rfl rfl dl_223 dl_224 dl_225 dl_226 dl_227 ?_
  refine la_callM (As := [.int (xs (i + 1))]) (rest := [.int x]) F (Mo_told_c l cf adM h2) wy_Mo_told rfl wm_30 rfl ⟨Nat.le_of_ble_eq_true rfl, Nat.le_of_ble_eq_true rfl⟩ rfl (Nat.le_of_ble_eq_true rfl) dl_228 ?_
  exact la_eqI F 983 dl_231 (by decide) (kk _ _ R1)
theorem cs_4 {p : Program} {l : Launch} {e : Env} {s : State} {m : MethodId} {args : Array Value} {below : List Frame} {meth : Method} {c : Code} {Q : State → Prop} {cf : gm_C} {adC adM : Nat → Nat} {b L : Nat} {xs : Nat → Int32} {C M : gm_M} {i : Nat} (F : gm_LF p s m args meth c cf adC adM b L xs) (hi : i + 5 ≤ L) (hL : L < 2 ^ 31) (R : px_R C M) (kk : ∀ C' M' : gm_M, px_R C' M' → gm_L p l e s m args below meth c Q cf adC adM C' M' 983 [(3, .int (nI i)), (2, .ref (adM 0)), (1, .ref (adC 0)), (0, .ref b)] []) : gm_L p l e s m args below meth c Q cf adC adM C M 236 [(3, .int (nI i)), (2, .ref (adM 0)), (1, .ref (adC 0)), (0, .ref b)] [] := by
  obtain ⟨x, h1, h2⟩ := op_ruleOf (fl := 20000) (xs (i + 1)) (xs (i + 2)) (Nat.le_refl _) R
  refine la_aload F dl_236 rfl 2 rfl ?_
  refine la_arg (j := 1) F (by omega) hL rfl rfl rfl dl_237 dl_238 dl_239 dl_240 dl_241 ?_
  refine la_arg (j := 2) F (by omega) hL rfl rfl rfl dl_242 dl_243 dl_244 dl_245 dl_246 ?_
  refine la_callC (As := [.int (xs (i + 1)), .int (xs (i + 2))]) (rest := []) F (Lt_ruleOf_c l cf adC h1) wy_Lt_ruleOf rfl wm_31 rfl ⟨Nat.le_of_ble_eq_true rfl, Nat.le_of_ble_eq_true rfl⟩ rfl (Nat.le_of_ble_eq_true rfl) dl_247 ?_
  refine la_aload F dl_250 rfl 1 rfl ?_
  refine la_arg (j := 1) F (by omega) hL rfl rfl rfl dl_251 dl_252 dl_253 dl_254 dl_255 ?_
  refine la_arg (j := 2) F (by omega) hL rfl rfl rfl dl_256 dl_257 dl_258 dl_259 dl_260 ?_
  refine la_callM (As := [.int (xs (i + 1)), .int (xs (i + 2))]) (rest := [.int x]) F (Mo_ruleOf_c l cf adM h2) wy_Mo_ruleOf rfl wm_35 rfl ⟨Nat.le_of_ble_eq_true rfl, Nat.le_of_ble_eq_true rfl⟩ rfl (Nat.le_of_ble_eq_true rfl) dl_261 ?_
  exact la_eqI F 983 dl_264 (by decide) (kk _ _ R)
theorem cs_5 {p : Program} {l : Launch} {e : Env} {s : State} {m : MethodId} {args : Array Value} {below : List Frame} {meth : Method} {c : Code} {Q : State → Prop} {cf : gm_C} {adC adM : Nat → Nat} {b L : Nat} {xs : Nat → Int32} {C M : gm_M} {i : Nat} (F : gm_LF p s m args meth c cf adC adM b L xs) (hi : i + 5 ≤ L) (hL : L < 2 ^ 31) (R : px_R C M) (kk : ∀ C' M' : gm_M, px_R C' M' → gm_L p l e s m args below meth c Q cf adC adM C' M' 983 [(3, .int (nI i)), (2, .ref (adM 0)), (1, .ref (adC 0)), (0, .ref b)] []) : gm_L p l e s m args below meth c Q cf adC adM C M 269 [(3, .int (nI i)), (2, .ref (adM 0)), (1, .ref (adC 0)), (0, .ref b)] [] := by
  obtain ⟨x, h1, h2⟩ := op_rollOf (fl := 20000) (xs (i + 1)) (xs (i + 2)) (Nat.le_refl _) R
  refine la_aload F dl_269 rfl 2 rfl ?_
  refine la_arg (j := 1) F (by omega) hL rfl rfl rfl dl_270 dl_271 dl_272 dl_273 dl_274 ?_
  refine la_arg (j := 2) F (by omega) hL rfl rfl rfl dl_275 dl_276 dl_277 dl_278 dl_279 ?_
  refine la_callC (As := [.int (xs (i + 1)), .int (xs (i + 2))]) (rest := []) F (Lt_rollOf_c l cf adC h1) wy_Lt_rollOf rfl wm_36 rfl ⟨Nat.le_of_ble_eq_true rfl, Nat.le_of_ble_eq_true rfl⟩ rfl (Nat.le_of_ble_eq_true rfl) dl_280 ?_
  refine la_aload F dl_283 rfl 1 rfl ?_
  refine la_arg (j := 1) F (by omega) hL rfl rfl rfl dl_284 dl_285 dl_286 dl_287 dl_288 ?_
  refine la_arg (j := 2) F (by omega) hL rfl rfl rfl dl_289 dl_290 dl_291 dl_292 dl_293 ?_
  refine la_callM (As := [.int (xs (i + 1)), .int (xs (i + 2))]) (rest := [.int x]) F (Mo_rollOf_c l cf adM h2) wy_Mo_rollOf rfl wm_39 rfl ⟨Nat.le_of_ble_eq_true rfl, Nat.le_of_ble_eq_true rfl⟩ rfl (Nat.le_of_ble_eq_true rfl) dl_294 ?_
  exact la_eqI F 983 dl_297 (by decide) (kk _ _ R)
theorem cs_6 {p : Program} {l : Launch} {e : Env} {s : State} {m : MethodId} {args : Array Value} {below : List Frame} {meth : Method} {c : Code} {Q : State → Prop} {cf : gm_C} {adC adM : Nat → Nat} {b L : Nat} {xs : Nat → Int32} {C M : gm_M} {i : Nat} (F : gm_LF p s m args meth c cf adC adM b L xs) (hi : i + 5 ≤ L) (hL : L < 2 ^ 31) (R : px_R C M) (kk : ∀ C' M' : gm_M, px_R C' M' → gm_L p l e s m args below meth c Q cf adC adM C' M' 983 [(3, .int (nI i)), (2, .ref (adM 0)), (1, .ref (adC 0)), (0, .ref b)] []) : gm_L p l e s m args below meth c Q cf adC adM C M 302 [(3, .int (nI i)), (2, .ref (adM 0)), (1, .ref (adC 0)), (0, .ref b)] [] := by
  obtain ⟨x, h1, h2⟩ := op_rider (xs (i + 1)) (xs (i + 2)) R
  refine la_aload F dl_302 rfl 2 rfl ?_
  refine la_arg (j := 1) F (by omega) hL rfl rfl rfl dl_303 dl_304 dl_305 dl_306 dl_307 ?_
  refine la_arg (j := 2) F (by omega) hL rfl rfl rfl dl_308 dl_309 dl_310 dl_311 dl_312 ?_
  refine la_callC (As := [.int (xs (i + 1)), .int (xs (i + 2))]) (rest := []) F (Lt_rider_c l cf adC h1) wy_Lt_rider rfl wm_40 rfl ⟨Nat.le_of_ble_eq_true rfl, Nat.le_of_ble_eq_true rfl⟩ rfl (Nat.le_of_ble_eq_true rfl) dl_313 ?_
  refine la_aload F dl_316 rfl 1 rfl ?_
  refine la_arg (j := 1) F (by omega) hL rfl rfl rfl dl_317 dl_318 dl_319 dl_320 dl_321 ?_
  refine la_arg (j := 2) F (by omega) hL rfl rfl rfl dl_322 dl_323 dl_324 dl_325 dl_326 ?_
  refine la_callM (As := [.int (xs (i + 1)), .int (xs (i + 2))]) (rest := [.int x]) F (Mo_rider_c l cf adM h2) wy_Mo_rider rfl wm_43 rfl ⟨Nat.le_of_ble_eq_true rfl, Nat.le_of_ble_eq_true rfl⟩ rfl (Nat.le_of_ble_eq_true rfl) dl_327 ?_
  exact la_eqI F 983 dl_330 (by decide) (kk _ _ R)
theorem cs_7 {p : Program} {l : Launch} {e : Env} {s : State} {m : MethodId} {args : Array Value} {below : List Frame} {meth : Method} {c : Code} {Q : State → Prop} {cf : gm_C} {adC adM : Nat → Nat} {b L : Nat} {xs : Nat → Int32} {C M : gm_M} {i : Nat} (F : gm_LF p s m args meth c cf adC adM b L xs) (hi : i + 5 ≤ L) (hL : L < 2 ^ 31) (R : px_R C M) (kk : ∀ C' M' : gm_M, px_R C' M' → gm_L p l e s m args below meth c Q cf adC adM C' M' 983 [(3, .int (nI i)), (2, .ref (adM 0)), (1, .ref (adC 0)), (0, .ref b)] []) : gm_L p l e s m args below meth c Q cf adC adM C M 335 [(3, .int (nI i)), (2, .ref (adM 0)), (1, .ref (adC 0)), (0, .ref b)] [] := by
  obtain ⟨x, h1, h2⟩ := op_lucky (fl := 20000) (xs (i + 1)) (xs (i + 2)) (Nat.le_refl _) R
  refine la_aload F dl_335 rfl 2 rfl ?_
  refine la_arg (j := 1) F (by omega) hL rfl rfl rfl dl_336 dl_337 dl_338 dl_339 dl_340 ?_
  refine la_arg (j := 2) F (by omega) hL rfl rfl rfl dl_341 dl_342 dl_343 dl_344 dl_345 ?_
  refine la_callC (As := [.int (xs (i + 1)), .int (xs (i + 2))]) (rest := []) F (Lt_lucky_c l cf adC h1) wy_Lt_lucky rfl wm_44 rfl ⟨Nat.le_of_ble_eq_true rfl, Nat.le_of_ble_eq_true rfl⟩ rfl (Nat.le_of_ble_eq_true rfl) dl_346 ?_
  refine la_aload F dl_349 rfl 1 rfl ?_
  refine la_arg (j := 1) F (by omega) hL rfl rfl rfl dl_350 dl_351 dl_352 dl_353 dl_354 ?_
  refine la_arg (j := 2) F (by omega) hL rfl rfl rfl dl_355 dl_356 dl_357 dl_358 dl_359 ?_
  refine la_callM (As := [.int (xs (i + 1)), .int (xs (i + 2))]) (rest := [.int x]) F (Mo_lucky_c l cf adM h2) wy_Mo_lucky rfl wm_47 rfl ⟨Nat.le_of_ble_eq_true rfl, Nat.le_of_ble_eq_true rfl⟩ rfl (Nat.le_of_ble_eq_true rfl) dl_360 ?_
  exact la_eqI F 983 dl_363 (by decide) (kk _ _ R)
theorem cs_8 {p : Program} {l : Launch} {e : Env} {s : State} {m : MethodId} {args : Array Value} {below : List Frame} {meth : Method} {c : Code} {Q : State → Prop} {cf : gm_C} {adC adM : Nat → Nat} {b L : Nat} {xs : Nat → Int32} {C M : gm_M} {i : Nat} (F : gm_LF p s m args meth c cf adC adM b L xs) (hi : i + 5 ≤ L) (hL : L < 2 ^ 31) (R : px_R C M) (kk : ∀ C' M' : gm_M, px_R C' M' → gm_L p l e s m args below meth c Q cf adC adM C' M' 983 [(3, .int (nI i)), (2, .ref (adM 0)), (1, .ref (adC 0)), (0, .ref b)] []) : gm_L p l e s m args below meth c Q cf adC adM C M 368 [(3, .int (nI i)), (2, .ref (adM 0)), (1, .ref (adC 0)), (0, .ref b)] [] := by
  obtain ⟨x, C1, M1, h1, h2, R1⟩ := op_sell (fl := 20000) (xs (i + 1)) (xs (i + 2)) (Nat.le_refl _) R
  refine la_aload F dl_368 rfl 2 rfl ?_
  refine la_arg (j := 1) F (by omega) hL rfl rfl rfl dl_369 dl_370 dl_371 dl_372 dl_373 ?_
  refine la_arg (j := 2) F (by omega) hL rfl rfl rfl dl_374 dl_375 dl_376 dl_377 dl_378 ?_
  refine la_callC (As := [.int (xs (i + 1)), .int (xs (i + 2))]) (rest := []) F (Lt_sell_c l cf adC h1) wy_Lt_sell rfl wm_48 rfl ⟨Nat.le_of_ble_eq_true rfl, Nat.le_of_ble_eq_true rfl⟩ rfl (Nat.le_of_ble_eq_true rfl) dl_379 ?_
  refine la_aload F dl_382 rfl 1 rfl ?_
  refine la_arg (j := 1) F (by omega) hL rfl rfl rfl dl_383 dl_384 dl_385 dl_386 dl_387 ?_
  refine la_arg (j := 2) F (by omega) hL rfl rfl rfl dl_388 dl_389 dl_390 dl_391 dl_392 ?_
  refine la_callM (As := [.int (xs (i + 1)), .int (xs (i + 2))]) (rest := [.int x]) F (Mo_sell_c l cf adM h2) wy_Mo_sell rfl wm_51 rfl ⟨Nat.le_of_ble_eq_true rfl, Nat.le_of_ble_eq_true rfl⟩ rfl (Nat.le_of_ble_eq_true rfl) dl_393 ?_
  exact la_eqI F 983 dl_396 (by decide) (kk _ _ R1)
theorem cs_9 {p : Program} {l : Launch} {e : Env} {s : State} {m : MethodId} {args : Array Value} {below : List Frame} {meth : Method} {c : Code} {Q : State → Prop} {cf : gm_C} {adC adM : Nat → Nat} {b L : Nat} {xs : Nat → Int32} {C M : gm_M} {i : Nat} (F : gm_LF p s m args meth c cf adC adM b L xs) (hi : i + 5 ≤ L) (hL : L < 2 ^ 31) (R : px_R C M) (kk : ∀ C' M' : gm_M, px_R C' M' → gm_L p l e s m args below meth c Q cf adC adM C' M' 983 [(3, .int (nI i)), (2, .ref (adM 0)), (1, .ref (adC 0)), (0, .ref b)] []) : gm_L p l e s m args below meth c Q cf adC adM C M 401 [(3, .int (nI i)), (2, .ref (adM 0)), (1, .ref (adC 0)), (0, .ref b)] [] := by
  obtain ⟨x, C1, M1, h1, h2, R1⟩ := op_line (fl := 20000) (xs (i + 1)) (xs (i + 2)) (Nat.le_refl _) R
  refine la_aload F dl_401 rfl 2 rfl ?_
  refine la_arg (j := 1) F (by omega) hL rfl rfl rfl dl_402 dl_403 dl_404 dl_405 dl_406 ?_
  refine la_arg (j := 2) F (by omega) hL rfl rfl rfl dl_407 dl_408 dl_409 dl_410 dl_411 ?_
  refine la_callC (As := [.int (xs (i + 1)), .int (xs (i + 2))]) (rest := []) F (Lt_line_c l cf adC h1) wy_Lt_line rfl wm_52 rfl ⟨Nat.le_of_ble_eq_true rfl, Nat.le_of_ble_eq_true rfl⟩ rfl (Nat.le_of_ble_eq_true rfl) dl_412 ?_
  refine la_aload F dl_415 rfl 1 rfl ?_
  refine la_arg (j := 1) F (by omega) hL rfl rfl rfl dl_416 dl_417 dl_418 dl_419 dl_420 ?_
  refine la_arg (j := 2) F (by omega) hL rfl rfl rfl dl_421 dl_422 dl_423 dl_424 dl_425 ?_
  refine la_callM (As := [.int (xs (i + 1)), .int (xs (i + 2))]) (rest := [.int x]) F (Mo_line_c l cf adM h2) wy_Mo_line rfl wm_55 rfl ⟨Nat.le_of_ble_eq_true rfl, Nat.le_of_ble_eq_true rfl⟩ rfl (Nat.le_of_ble_eq_true rfl) dl_426 ?_
  exact la_eqI F 983 dl_429 (by decide) (kk _ _ R1)
theorem cs_10 {p : Program} {l : Launch} {e : Env} {s : State} {m : MethodId} {args : Array Value} {below : List Frame} {meth : Method} {c : Code} {Q : State → Prop} {cf : gm_C} {adC adM : Nat → Nat} {b L : Nat} {xs : Nat → Int32} {C M : gm_M} {i : Nat} (F : gm_LF p s m args meth c cf adC adM b L xs) (hi : i + 5 ≤ L) (hL : L < 2 ^ 31) (R : px_R C M) (kk : ∀ C' M' : gm_M, px_R C' M' → gm_L p l e s m args below meth c Q cf adC adM C' M' 983 [(3, .int (nI i)), (2, .ref (adM 0)), (1, .ref (adC 0)), (0, .ref b)] []) : gm_L p l e s m args below meth c Q cf adC adM C M 434 [(3, .int (nI i)), (2, .ref (adM 0)), (1, .ref (adC 0)), (0, .ref b)] [] := by
  obtain ⟨x, C1, M1, h1, h2, R1⟩ := op_give (fl := 20000) (xs (i + 1)) (xs (i + 2)) (Nat.le_refl _) R
  refine la_aload F dl_434 rfl 2 rfl ?_
  refine la_arg (j := 1) F (by omega) hL rfl rfl rfl dl_435 dl_436 dl_437 dl_438 dl_439 ?_
  refine la_arg (j := 2) F (by omega) hL rfl rfl rfl dl_440 dl_441 dl_442 dl_443 dl_444 ?_
  refine la_callC (As := [.int (xs (i + 1)), .int (xs (i + 2))]) (rest := []) F (Lt_give_c l cf adC h1) wy_Lt_give rfl wm_56 rfl ⟨Nat.le_of_ble_eq_true rfl, Nat.le_of_ble_eq_true rfl⟩ rfl (Nat.le_of_ble_eq_true rfl) dl_445 ?_
  refine la_aload F dl_448 rfl 1 rfl ?_
  refine la_arg (j := 1) F (by omega) hL rfl rfl rfl dl_449 dl_450 dl_451 dl_452 dl_453 ?_
  refine la_arg (j := 2) F (by omega) hL rfl rfl rfl dl_454 dl_455 dl_456 dl_457 dl_458 ?_
  refine la_callM (As := [.int (xs (i + 1)), .int (xs (i + 2))]) (rest := [.int x]) F (Mo_give_c l cf adM h2) wy_Mo_give rfl wm_59 rfl ⟨Nat.le_of_ble_eq_true rfl, Nat.le_of_ble_eq_true rfl⟩ rfl (Nat.le_of_ble_eq_true rfl) dl_459 ?_
  exact la_eqI F 983 dl_462 (by decide) (kk _ _ R1)
theorem cs_11 {p : Program} {l : Launch} {e : Env} {s : State} {m : MethodId} {args : Array Value} {below : List Frame} {meth : Method} {c : Code} {Q : State → Prop} {cf : gm_C} {adC adM : Nat → Nat} {b L : Nat} {xs : Nat → Int32} {C M : gm_M} {i : Nat} (F : gm_LF p s m args meth c cf adC adM b L xs) (hi : i + 5 ≤ L) (hL : L < 2 ^ 31) (R : px_R C M) (kk : ∀ C' M' : gm_M, px_R C' M' → gm_L p l e s m args below meth c Q cf adC adM C' M' 983 [(3, .int (nI i)), (2, .ref (adM 0)), (1, .ref (adC 0)), (0, .ref b)] []) : gm_L p l e s m args below meth c Q cf adC adM C M 467 [(3, .int (nI i)), (2, .ref (adM 0)), (1, .ref (adC 0)), (0, .ref b)] [] := by
  obtain ⟨x, C1, M1, h1, h2, R1⟩ := op_rule (fl := 20000) (xs (i + 1)) (xs (i + 2)) (xs (i + 3)) (xs (i + 4)) (Nat.le_refl _) R
  refine la_aload F dl_467 rfl 2 rfl ?_
  refine la_arg (j := 1) F (by omega) hL rfl rfl rfl dl_468 dl_469 dl_470 dl_471 dl_472 ?_
  refine la_arg (j := 2) F (by omega) hL rfl rfl rfl dl_473 dl_474 dl_475 dl_476 dl_477 ?_
  refine la_arg (j := 3) F (by omega) hL rfl rfl rfl dl_478 dl_479 dl_480 dl_481 dl_482 ?_
  refine la_arg (j := 4) F (by omega) hL rfl rfl rfl dl_483 dl_484 dl_485 dl_486 dl_487 ?_
  refine la_callC (As := [.int (xs (i + 1)), .int (xs (i + 2)), .int (xs (i + 3)), .int (xs (i + 4))]) (rest := []) F (Lt_rule_c l cf adC h1) wy_Lt_rule rfl wm_60 rfl ⟨Nat.le_of_ble_eq_true rfl, Nat.le_of_ble_eq_true rfl⟩ rfl (Nat.le_of_ble_eq_true rfl) dl_488 ?_
  refine la_aload F dl_491 rfl 1 rfl ?_
  refine la_arg (j := 1) F (by omega) hL rfl rfl rfl dl_492 dl_493 dl_494 dl_495 dl_496 ?_
  refine la_arg (j := 2) F (by omega) hL rfl rfl rfl dl_497 dl_498 dl_499 dl_500 dl_501 ?_
  refine la_arg (j := 3) F (by omega) hL rfl rfl rfl dl_502 dl_503 dl_504 dl_505 dl_506 ?_
  refine la_arg (j := 4) F (by omega) hL rfl rfl rfl dl_507 dl_508 dl_509 dl_510 dl_511 ?_
  refine la_callM (As := [.int (xs (i + 1)), .int (xs (i + 2)), .int (xs (i + 3)), .int (xs (i + 4))]) (rest := [.int x]) F (Mo_rule_c l cf adM h2) wy_Mo_rule rfl wm_64 rfl ⟨Nat.le_of_ble_eq_true rfl, Nat.le_of_ble_eq_true rfl⟩ rfl (Nat.le_of_ble_eq_true rfl) dl_512 ?_
  exact la_eqI F 983 dl_515 (by decide) (kk _ _ R1)
theorem cs_12 {p : Program} {l : Launch} {e : Env} {s : State} {m : MethodId} {args : Array Value} {below : List Frame} {meth : Method} {c : Code} {Q : State → Prop} {cf : gm_C} {adC adM : Nat → Nat} {b L : Nat} {xs : Nat → Int32} {C M : gm_M} {i : Nat} (F : gm_LF p s m args meth c cf adC adM b L xs) (hi : i + 5 ≤ L) (hL : L < 2 ^ 31) (R : px_R C M) (kk : ∀ C' M' : gm_M, px_R C' M' → gm_L p l e s m args below meth c Q cf adC adM C' M' 983 [(3, .int (nI i)), (2, .ref (adM 0)), (1, .ref (adC 0)), (0, .ref b)] []) : gm_L p l e s m args below meth c Q cf adC adM C M 520 [(3, .int (nI i)), (2, .ref (adM 0)), (1, .ref (adC 0)), (0, .ref b)] [] := by
  obtain ⟨x, C1, M1, h1, h2, R1⟩ := op_mode (fl := 20000) (xs (i + 1)) (Nat.le_refl _) R
  refine la_aload F dl_520 rfl 2 rfl ?_
  refine la_arg (j := 1) F (by omega) hL rfl rfl rfl dl_521 dl_522 dl_523 dl_524 dl_525 ?_
  refine la_callC (As := [.int (xs (i + 1))]) (rest := []) F (Lt_mode_c l cf adC h1) wy_Lt_mode rfl wm_65 rfl ⟨Nat.le_of_ble_eq_true rfl, Nat.le_of_ble_eq_true rfl⟩ rfl (Nat.le_of_ble_eq_true rfl) dl_526 ?_
  refine la_aload F dl_529 rfl 1 rfl ?_
  refine la_arg (j := 1) F (by omega) hL rfl rfl rfl dl_530 dl_531 dl_532 dl_533 dl_534 ?_
  refine la_callM (As := [.int (xs (i + 1))]) (rest := [.int x]) F (Mo_mode_c l cf adM h2) wy_Mo_mode rfl wm_68 rfl ⟨Nat.le_of_ble_eq_true rfl, Nat.le_of_ble_eq_true rfl⟩ rfl (Nat.le_of_ble_eq_true rfl) dl_535 ?_
  exact la_eqI F 983 dl_538 (by decide) (kk _ _ R1)
theorem cs_13 {p : Program} {l : Launch} {e : Env} {s : State} {m : MethodId} {args : Array Value} {below : List Frame} {meth : Method} {c : Code} {Q : State → Prop} {cf : gm_C} {adC adM : Nat → Nat} {b L : Nat} {xs : Nat → Int32} {C M : gm_M} {i : Nat} (F : gm_LF p s m args meth c cf adC adM b L xs) (hi : i + 5 ≤ L) (hL : L < 2 ^ 31) (R : px_R C M) (kk : ∀ C' M' : gm_M, px_R C' M' → gm_L p l e s m args below meth c Q cf adC adM C' M' 983 [(3, .int (nI i)), (2, .ref (adM 0)), (1, .ref (adC 0)), (0, .ref b)] []) : gm_L p l e s m args below meth c Q cf adC adM C M 543 [(3, .int (nI i)), (2, .ref (adM 0)), (1, .ref (adC 0)), (0, .ref b)] [] := by
  obtain ⟨x, C1, M1, h1, h2, R1⟩ := op_roll (fl := 20000) (xs (i + 1)) (xs (i + 2)) (xs (i + 3)) (Nat.le_refl _) R
  refine la_aload F dl_543 rfl 2 rfl ?_
  refine la_arg (j := 1) F (by omega) hL rfl rfl rfl dl_544 dl_545 dl_546 dl_547 dl_548 ?_
  refine la_arg (j := 2) F (by omega) hL rfl rfl rfl dl_549 dl_550 dl_551 dl_552 dl_553 ?_
  refine la_arg (j := 3) F (by omega) hL rfl rfl rfl dl_554 dl_555 dl_556 dl_557 dl_558 ?_
  refine la_callC (As := [.int (xs (i + 1)), .int (xs (i + 2)), .int (xs (i + 3))]) (rest := []) F (Lt_roll_c l cf adC h1) wy_Lt_roll rfl wm_69 rfl ⟨Nat.le_of_ble_eq_true rfl, Nat.le_of_ble_eq_true rfl⟩ rfl (Nat.le_of_ble_eq_true rfl) dl_559 ?_
  refine la_aload F dl_562 rfl 1 rfl ?_
  refine la_arg (j := 1) F (by omega) hL rfl rfl rfl dl_563 dl_564 dl_565 dl_566 dl_567 ?_
  refine la_arg (j := 2) F (by omega) hL rfl rfl rfl dl_568 dl_569 dl_570 dl_571 dl_572 ?_
  refine la_arg (j := 3) F (by omega) hL rfl rfl rfl dl_573 dl_574 dl_575 dl_576 dl_577 ?_
  refine la_callM (As := [.int (xs (i + 1)), .int (xs (i + 2)), .int (xs (i + 3))]) (rest := [.int x]) F (Mo_roll_c l cf adM h2) wy_Mo_roll rfl wm_73 rfl ⟨Nat.le_of_ble_eq_true rfl, Nat.le_of_ble_eq_true rfl⟩ rfl (Nat.le_of_ble_eq_true rfl) dl_578 ?_
  exact la_eqI F 983 dl_581 (by decide) (kk _ _ R1)
theorem cs_14 {p : Program} {l : Launch} {e : Env} {s : State} {m : MethodId} {args : Array Value} {below : List Frame} {meth : Method} {c : Code} {Q : State → Prop} {cf : gm_C} {adC adM : Nat → Nat} {b L : Nat} {xs : Nat → Int32} {C M : gm_M} {i : Nat} (F : gm_LF p s m args meth c cf adC adM b L xs) (hi : i + 5 ≤ L) (hL : L < 2 ^ 31) (R : px_R C M) (kk : ∀ C' M' : gm_M, px_R C' M' → gm_L p l e s m args below meth c Q cf adC adM C' M' 983 [(3, .int (nI i)), (2, .ref (adM 0)), (1, .ref (adC 0)), (0, .ref b)] []) : gm_L p l e s m args below meth c Q cf adC adM C M 586 [(3, .int (nI i)), (2, .ref (adM 0)), (1, .ref (adC 0)), (0, .ref b)] [] := by
  obtain ⟨x, C1, M1, h1, h2, R1⟩ := op_drift (fl := 20000) (xs (i + 1)) (Nat.le_refl _) R
  refine la_aload F dl_586 rfl 2 rfl ?_
  refine la_arg (j := 1) F (by omega) hL rfl rfl rfl dl_587 dl_588 dl_589 dl_590 dl_591 ?_
  refine la_callC (As := [.int (xs (i + 1))]) (rest := []) F (Lt_drift_c l cf adC h1) wy_Lt_drift rfl wm_74 rfl ⟨Nat.le_of_ble_eq_true rfl, Nat.le_of_ble_eq_true rfl⟩ rfl (Nat.le_of_ble_eq_true rfl) dl_592 ?_
  refine la_aload F dl_595 rfl 1 rfl ?_
  refine la_arg (j := 1) F (by omega) hL rfl rfl rfl dl_596 dl_597 dl_598 dl_599 dl_600 ?_
  refine la_callM (As := [.int (xs (i + 1))]) (rest := [.int x]) F (Mo_drift_c l cf adM h2) wy_Mo_drift rfl wm_77 rfl ⟨Nat.le_of_ble_eq_true rfl, Nat.le_of_ble_eq_true rfl⟩ rfl (Nat.le_of_ble_eq_true rfl) dl_601 ?_
  exact la_eqI F 983 dl_604 (by decide) (kk _ _ R1)
theorem cs_15 {p : Program} {l : Launch} {e : Env} {s : State} {m : MethodId} {args : Array Value} {below : List Frame} {meth : Method} {c : Code} {Q : State → Prop} {cf : gm_C} {adC adM : Nat → Nat} {b L : Nat} {xs : Nat → Int32} {C M : gm_M} {i : Nat} (F : gm_LF p s m args meth c cf adC adM b L xs) (hi : i + 5 ≤ L) (hL : L < 2 ^ 31) (R : px_R C M) (kk : ∀ C' M' : gm_M, px_R C' M' → gm_L p l e s m args below meth c Q cf adC adM C' M' 983 [(3, .int (nI i)), (2, .ref (adM 0)), (1, .ref (adC 0)), (0, .ref b)] []) : gm_L p l e s m args below meth c Q cf adC adM C M 609 [(3, .int (nI i)), (2, .ref (adM 0)), (1, .ref (adC 0)), (0, .ref b)] [] := by
  obtain ⟨x, C1, M1, h1, h2, R1⟩ := op_undo (fl := 20000)  (Nat.le_refl _) R
  refine la_aload F dl_609 rfl 2 rfl ?_
  refine la_callC (As := []) (rest := []) F (Lt_undo_c l cf adC h1) wy_Lt_undo rfl wm_78 rfl ⟨Nat.le_of_ble_eq_true rfl, Nat.le_of_ble_eq_true rfl⟩ rfl (Nat.le_of_ble_eq_true rfl) dl_610 ?_
  refine la_aload F dl_613 rfl 1 rfl ?_
  refine la_callM (As := []) (rest := [.int x]) F (Mo_undo_c l cf adM h2) wy_Mo_undo rfl wm_81 rfl ⟨Nat.le_of_ble_eq_true rfl, Nat.le_of_ble_eq_true rfl⟩ rfl (Nat.le_of_ble_eq_true rfl) dl_614 ?_
  exact la_eqI F 983 dl_617 (by decide) (kk _ _ R1)
theorem cs_16 {p : Program} {l : Launch} {e : Env} {s : State} {m : MethodId} {args : Array Value} {below : List Frame} {meth : Method} {c : Code} {Q : State → Prop} {cf : gm_C} {adC adM : Nat → Nat} {b L : Nat} {xs : Nat → Int32} {C M : gm_M} {i : Nat} (F : gm_LF p s m args meth c cf adC adM b L xs) (hi : i + 5 ≤ L) (hL : L < 2 ^ 31) (R : px_R C M) (kk : ∀ C' M' : gm_M, px_R C' M' → gm_L p l e s m args below meth c Q cf adC adM C' M' 983 [(3, .int (nI i)), (2, .ref (adM 0)), (1, .ref (adC 0)), (0, .ref b)] []) : gm_L p l e s m args below meth c Q cf adC adM C M 622 [(3, .int (nI i)), (2, .ref (adM 0)), (1, .ref (adC 0)), (0, .ref b)] [] := by
  obtain ⟨x, h1, h2⟩ := op_next (fl := 20000) (xs (i + 1)) (Nat.le_refl _) R
  refine la_aload F dl_622 rfl 2 rfl ?_
  refine la_arg (j := 1) F (by omega) hL rfl rfl rfl dl_623 dl_624 dl_625 dl_626 dl_627 ?_
  refine la_callC (As := [.int (xs (i + 1))]) (rest := []) F (Lt_next_c l cf adC h1) wy_Lt_next rfl wm_82 rfl ⟨Nat.le_of_ble_eq_true rfl, Nat.le_of_ble_eq_true rfl⟩ rfl (Nat.le_of_ble_eq_true rfl) dl_628 ?_
  refine la_aload F dl_631 rfl 1 rfl ?_
  refine la_arg (j := 1) F (by omega) hL rfl rfl rfl dl_632 dl_633 dl_634 dl_635 dl_636 ?_
  refine la_callM (As := [.int (xs (i + 1))]) (rest := [.int x]) F (Mo_next_c l cf adM h2) wy_Mo_next rfl wm_85 rfl ⟨Nat.le_of_ble_eq_true rfl, Nat.le_of_ble_eq_true rfl⟩ rfl (Nat.le_of_ble_eq_true rfl) dl_637 ?_
  exact la_eqI F 983 dl_640 (by decide) (kk _ _ R)
theorem cs_17 {p : Program} {l : Launch} {e : Env} {s : State} {m : MethodId} {args : Array Value} {below : List Frame} {meth : Method} {c : Code} {Q : State → Prop} {cf : gm_C} {adC adM : Nat → Nat} {b L : Nat} {xs : Nat → Int32} {C M : gm_M} {i : Nat} (F : gm_LF p s m args meth c cf adC adM b L xs) (hi : i + 5 ≤ L) (hL : L < 2 ^ 31) (R : px_R C M) (kk : ∀ C' M' : gm_M, px_R C' M' → gm_L p l e s m args below meth c Q cf adC adM C' M' 983 [(3, .int (nI i)), (2, .ref (adM 0)), (1, .ref (adC 0)), (0, .ref b)] []) : gm_L p l e s m args below meth c Q cf adC adM C M 645 [(3, .int (nI i)), (2, .ref (adM 0)), (1, .ref (adC 0)), (0, .ref b)] [] := by
  obtain ⟨x, h1, h2⟩ := op_upTo (fl := 20000) (xs (i + 1)) (xs (i + 2)) (Nat.le_refl _) R
  refine la_aload F dl_645 rfl 2 rfl ?_
  refine la_arg (j := 1) F (by omega) hL rfl rfl rfl dl_646 dl_647 dl_648 dl_649 dl_650 ?_
  refine la_arg (j := 2) F (by omega) hL rfl rfl rfl dl_651 dl_652 dl_653 dl_654 dl_655 ?_
  refine la_callC (As := [.int (xs (i + 1)), .int (xs (i + 2))]) (rest := []) F (Lt_upTo_c l cf adC h1) wy_Lt_upTo rfl wm_86 rfl ⟨Nat.le_of_ble_eq_true rfl, Nat.le_of_ble_eq_true rfl⟩ rfl (Nat.le_of_ble_eq_true rfl) dl_656 ?_
  refine la_aload F dl_659 rfl 1 rfl ?_
  refine la_arg (j := 1) F (by omega) hL rfl rfl rfl dl_660 dl_661 dl_662 dl_663 dl_664 ?_
  refine la_arg (j := 2) F (by omega) hL rfl rfl rfl dl_665 dl_666 dl_667 dl_668 dl_669 ?_
  refine la_callM (As := [.int (xs (i + 1)), .int (xs (i + 2))]) (rest := [.int x]) F (Mo_upTo_c l cf adM h2) wy_Mo_upTo rfl wm_89 rfl ⟨Nat.le_of_ble_eq_true rfl, Nat.le_of_ble_eq_true rfl⟩ rfl (Nat.le_of_ble_eq_true rfl) dl_670 ?_
  exact la_eqI F 983 dl_673 (by decide) (kk _ _ R)
theorem cs_18 {p : Program} {l : Launch} {e : Env} {s : State} {m : MethodId} {args : Array Value} {below : List Frame} {meth : Method} {c : Code} {Q : State → Prop} {cf : gm_C} {adC adM : Nat → Nat} {b L : Nat} {xs : Nat → Int32} {C M : gm_M} {i : Nat} (F : gm_LF p s m args meth c cf adC adM b L xs) (hi : i + 5 ≤ L) (hL : L < 2 ^ 31) (R : px_R C M) (kk : ∀ C' M' : gm_M, px_R C' M' → gm_L p l e s m args below meth c Q cf adC adM C' M' 983 [(3, .int (nI i)), (2, .ref (adM 0)), (1, .ref (adC 0)), (0, .ref b)] []) : gm_L p l e s m args below meth c Q cf adC adM C M 678 [(3, .int (nI i)), (2, .ref (adM 0)), (1, .ref (adC 0)), (0, .ref b)] [] := by
  obtain ⟨x, h1, h2⟩ := op_kth (fl := 20000) (xs (i + 1)) (Nat.le_refl _) R
  refine la_aload F dl_678 rfl 2 rfl ?_
  refine la_arg (j := 1) F (by omega) hL rfl rfl rfl dl_679 dl_680 dl_681 dl_682 dl_683 ?_
  refine la_callC (As := [.int (xs (i + 1))]) (rest := []) F (Lt_kth_c l cf adC h1) wy_Lt_kth rfl wm_90 rfl ⟨Nat.le_of_ble_eq_true rfl, Nat.le_of_ble_eq_true rfl⟩ rfl (Nat.le_of_ble_eq_true rfl) dl_684 ?_
  refine la_aload F dl_687 rfl 1 rfl ?_
  refine la_arg (j := 1) F (by omega) hL rfl rfl rfl dl_688 dl_689 dl_690 dl_691 dl_692 ?_
  refine la_callM (As := [.int (xs (i + 1))]) (rest := [.int x]) F (Mo_kth_c l cf adM h2) wy_Mo_kth rfl wm_93 rfl ⟨Nat.le_of_ble_eq_true rfl, Nat.le_of_ble_eq_true rfl⟩ rfl (Nat.le_of_ble_eq_true rfl) dl_693 ?_
  exact la_eqI F 983 dl_696 (by decide) (kk _ _ R)
theorem cs_19 {p : Program} {l : Launch} {e : Env} {s : State} {m : MethodId} {args : Array Value} {below : List Frame} {meth : Method} {c : Code} {Q : State → Prop} {cf : gm_C} {adC adM : Nat → Nat} {b L : Nat} {xs : Nat → Int32} {C M : gm_M} {i : Nat} (F : gm_LF p s m args meth c cf adC adM b L xs) (hi : i + 5 ≤ L) (hL : L < 2 ^ 31) (R : px_R C M) (kk : ∀ C' M' : gm_M, px_R C' M' → gm_L p l e s m args below meth c Q cf adC adM C' M' 983 [(3, .int (nI i)), (2, .ref (adM 0)), (1, .ref (adC 0)), (0, .ref b)] []) : gm_L p l e s m args below meth c Q cf adC adM C M 701 [(3, .int (nI i)), (2, .ref (adM 0)), (1, .ref (adC 0)), (0, .ref b)] [] := by
  obtain ⟨x, h1, h2⟩ := op_waits (fl := 20000) (xs (i + 1)) (Nat.le_refl _) R
  refine la_aload F dl_701 rfl 2 rfl ?_
  refine la_arg (j := 1) F (by omega) hL rfl rfl rfl dl_702 dl_703 dl_704 dl_705 dl_706 ?_
  refine la_callC (As := [.int (xs (i + 1))]) (rest := []) F (Lt_waits_c l cf adC h1) wy_Lt_waits rfl wm_94 rfl ⟨Nat.le_of_ble_eq_true rfl, Nat.le_of_ble_eq_true rfl⟩ rfl (Nat.le_of_ble_eq_true rfl) dl_707 ?_
  refine la_aload F dl_710 rfl 1 rfl ?_
  refine la_arg (j := 1) F (by omega) hL rfl rfl rfl dl_711 dl_712 dl_713 dl_714 dl_715 ?_
  refine la_callM (As := [.int (xs (i + 1))]) (rest := [.int x]) F (Mo_waits_c l cf adM h2) wy_Mo_waits rfl wm_97 rfl ⟨Nat.le_of_ble_eq_true rfl, Nat.le_of_ble_eq_true rfl⟩ rfl (Nat.le_of_ble_eq_true rfl) dl_716 ?_
  exact la_eqI F 983 dl_719 (by decide) (kk _ _ R)
theorem cs_20 {p : Program} {l : Launch} {e : Env} {s : State} {m : MethodId} {args : Array Value} {below : List Frame} {meth : Method} {c : Code} {Q : State → Prop} {cf : gm_C} {adC adM : Nat → Nat} {b L : Nat} {xs : Nat → Int32} {C M : gm_M} {i : Nat} (F : gm_LF p s m args meth c cf adC adM b L xs) (hi : i + 5 ≤ L) (hL : L < 2 ^ 31) (R : px_R C M) (kk : ∀ C' M' : gm_M, px_R C' M' → gm_L p l e s m args below meth c Q cf adC adM C' M' 983 [(3, .int (nI i)), (2, .ref (adM 0)), (1, .ref (adC 0)), (0, .ref b)] []) : gm_L p l e s m args below meth c Q cf adC adM C M 724 [(3, .int (nI i)), (2, .ref (adM 0)), (1, .ref (adC 0)), (0, .ref b)] [] := by
  obtain ⟨x, h1, h2⟩ := qx_dry (fl := 20000) (xs (i + 1)) (xs (i + 2)) (Nat.le_refl _)
  refine la_aload F dl_724 rfl 2 rfl ?_
  refine la_arg (j := 1) F (by omega) hL rfl rfl rfl dl_725 dl_726 dl_727 dl_728 dl_729 ?_
  refine la_arg (j := 2) F (by omega) hL rfl rfl rfl dl_730 dl_731 dl_732 dl_733 dl_734 ?_
  refine la_callC (As := [.int (xs (i + 1)), .int (xs (i + 2))]) (rest := []) F (Lt_dry_c l cf adC h1) wy_Lt_dry rfl wm_98 rfl ⟨Nat.le_of_ble_eq_true rfl, Nat.le_of_ble_eq_true rfl⟩ rfl (Nat.le_of_ble_eq_true rfl) dl_735 ?_
  refine la_aload F dl_738 rfl 1 rfl ?_
  refine la_arg (j := 1) F (by omega) hL rfl rfl rfl dl_739 dl_740 dl_741 dl_742 dl_743 ?_
  refine la_arg (j := 2) F (by omega) hL rfl rfl rfl dl_744 dl_745 dl_746 dl_747 dl_748 ?_
  refine la_callM (As := [.int (xs (i + 1)), .int (xs (i + 2))]) (rest := [.int x]) F (Mo_dry_c l cf adM h2) wy_Mo_dry rfl wm_101 rfl ⟨Nat.le_of_ble_eq_true rfl, Nat.le_of_ble_eq_true rfl⟩ rfl (Nat.le_of_ble_eq_true rfl) dl_749 ?_
  exact la_eqI F 983 dl_752 (by decide) (kk _ _ R)
theorem cs_21 {p : Program} {l : Launch} {e : Env} {s : State} {m : MethodId} {args : Array Value} {below : List Frame} {meth : Method} {c : Code} {Q : State → Prop} {cf : gm_C} {adC adM : Nat → Nat} {b L : Nat} {xs : Nat → Int32} {C M : gm_M} {i : Nat} (F : gm_LF p s m args meth c cf adC adM b L xs) (hi : i + 5 ≤ L) (hL : L < 2 ^ 31) (R : px_R C M) (kk : ∀ C' M' : gm_M, px_R C' M' → gm_L p l e s m args below meth c Q cf adC adM C' M' 983 [(3, .int (nI i)), (2, .ref (adM 0)), (1, .ref (adC 0)), (0, .ref b)] []) : gm_L p l e s m args below meth c Q cf adC adM C M 757 [(3, .int (nI i)), (2, .ref (adM 0)), (1, .ref (adC 0)), (0, .ref b)] [] := by
  by_cases hz : xs (i + 2) = 0
  · obtain ⟨x, C1, M1, h1, h2, R1⟩ := op_see (fl := 20000) (xs (i + 1)) false (Nat.le_refl _) R
    refine la_aload F dl_757 rfl 2 rfl ?_
    refine la_arg (j := 1) F (by omega) hL rfl rfl rfl dl_758 dl_759 dl_760 dl_761 dl_762 ?_
    refine la_arg (j := 2) F (by omega) hL rfl rfl rfl dl_763 dl_764 dl_765 dl_766 dl_767 ?_
    refine la_ifeq F 775 dl_768 (by decide) (fun _ => ?_) (fun h => absurd hz h)
    refine la_iconst (v := 0) F dl_775 (by decide) ?_
    refine la_callC (As := [.int (xs (i + 1)), .int (nI false.toNat)]) (rest := []) F (Lt_see_c l cf adC h1) wy_Lt_see rfl wm_102 rfl ⟨Nat.le_of_ble_eq_true rfl, Nat.le_of_ble_eq_true rfl⟩ rfl (Nat.le_of_ble_eq_true rfl) dl_776 ?_
    refine la_aload F dl_779 rfl 1 rfl ?_
    refine la_arg (j := 1) F (by omega) hL rfl rfl rfl dl_780 dl_781 dl_782 dl_783 dl_784 ?_
    refine la_arg (j := 2) F (by omega) hL rfl rfl rfl dl_785 dl_786 dl_787 dl_788 dl_789 ?_
    refine la_ifeq F 797 dl_790 (by decide) (fun _ => ?_) (fun h => absurd hz h)
    refine la_iconst (v := 0) F dl_797 (by decide) ?_
    refine la_callM (As := [.int (xs (i + 1)), .int (nI false.toNat)]) (rest := [.int x]) F (Mo_see_c l cf adM h2) wy_Mo_see rfl wm_106 rfl ⟨Nat.le_of_ble_eq_true rfl, Nat.le_of_ble_eq_true rfl⟩ rfl (Nat.le_of_ble_eq_true rfl) dl_798 ?_
    exact la_eqI F 983 dl_801 (by decide) (kk _ _ R1)
  · obtain ⟨x, C1, M1, h1, h2, R1⟩ := op_see (fl := 20000) (xs (i + 1)) true (Nat.le_refl _) R
    refine la_aload F dl_757 rfl 2 rfl ?_
    refine la_arg (j := 1) F (by omega) hL rfl rfl rfl dl_758 dl_759 dl_760 dl_761 dl_762 ?_
    refine la_arg (j := 2) F (by omega) hL rfl rfl rfl dl_763 dl_764 dl_765 dl_766 dl_767 ?_
    refine la_ifeq F 775 dl_768 (by decide) (fun h => absurd h hz) (fun _ => ?_)
    refine la_iconst (v := 1) F dl_771 (by decide) ?_
    refine la_goto F 776 dl_772 (by decide) ?_
    refine la_callC (As := [.int (xs (i + 1)), .int (nI true.toNat)]) (rest := []) F (Lt_see_c l cf adC h1) wy_Lt_see rfl wm_102 rfl ⟨Nat.le_of_ble_eq_true rfl, Nat.le_of_ble_eq_true rfl⟩ rfl (Nat.le_of_ble_eq_true rfl) dl_776 ?_
    refine la_aload F dl_779 rfl 1 rfl ?_
    refine la_arg (j := 1) F (by omega) hL rfl rfl rfl dl_780 dl_781 dl_782 dl_783 dl_784 ?_
    refine la_arg (j := 2) F (by omega) hL rfl rfl rfl dl_785 dl_786 dl_787 dl_788 dl_789 ?_
    refine la_ifeq F 797 dl_790 (by decide) (fun h => absurd h hz) (fun _ => ?_)
    refine la_iconst (v := 1) F dl_793 (by decide) ?_
    refine la_goto F 798 dl_794 (by decide) ?_
    refine la_callM (As := [.int (xs (i + 1)), .int (nI true.toNat)]) (rest := [.int x]) F (Mo_see_c l cf adM h2) wy_Mo_see rfl wm_106 rfl ⟨Nat.le_of_ble_eq_true rfl, Nat.le_of_ble_eq_true rfl⟩ rfl (Nat.le_of_ble_eq_true rfl) dl_798 ?_
    exact la_eqI F 983 dl_801 (by decide) (kk _ _ R1)
theorem cs_22 {p : Program} {l : Launch} {e : Env} {s : State} {m : MethodId} {args : Array Value} {below : List Frame} {meth : Method} {c : Code} {Q : State → Prop} {cf : gm_C} {adC adM : Nat → Nat} {b L : Nat} {xs : Nat → Int32} {C M : gm_M} {i : Nat} (F : gm_LF p s m args meth c cf adC adM b L xs) (hi : i + 5 ≤ L) (hL : L < 2 ^ 31) (R : px_R C M) (kk : ∀ C' M' : gm_M, px_R C' M' → gm_L p l e s m args below meth c Q cf adC adM C' M' 983 [(3, .int (nI i)), (2, .ref (adM 0)), (1, .ref (adC 0)), (0, .ref b)] []) : gm_L p l e s m args below meth c Q cf adC adM C M 806 [(3, .int (nI i)), (2, .ref (adM 0)), (1, .ref (adC 0)), (0, .ref b)] [] := by
  obtain ⟨x, h1, h2⟩ := op_could (fl := 20000) (xs (i + 1)) (xs (i + 2)) (Nat.le_refl _) R
  refine la_aload F dl_806 rfl 2 rfl ?_
  refine la_arg (j := 1) F (by omega) hL rfl rfl rfl dl_807 dl_808 dl_809 dl_810 dl_811 ?_
  refine la_arg (j := 2) F (by omega) hL rfl rfl rfl dl_812 dl_813 dl_814 dl_815 dl_816 ?_
  refine la_callC (As := [.int (xs (i + 1)), .int (xs (i + 2))]) (rest := []) F (Lt_could_c l cf adC h1) wy_Lt_could rfl wm_107 rfl ⟨Nat.le_of_ble_eq_true rfl, Nat.le_of_ble_eq_true rfl⟩ rfl (Nat.le_of_ble_eq_true rfl) dl_817 ?_
  refine la_aload F dl_820 rfl 1 rfl ?_
  refine la_arg (j := 1) F (by omega) hL rfl rfl rfl dl_821 dl_822 dl_823 dl_824 dl_825 ?_
  refine la_arg (j := 2) F (by omega) hL rfl rfl rfl dl_826 dl_827 dl_828 dl_829 dl_830 ?_
  refine la_callM (As := [.int (xs (i + 1)), .int (xs (i + 2))]) (rest := [.int x]) F (Mo_could_c l cf adM h2) wy_Mo_could rfl wm_110 rfl ⟨Nat.le_of_ble_eq_true rfl, Nat.le_of_ble_eq_true rfl⟩ rfl (Nat.le_of_ble_eq_true rfl) dl_831 ?_
  exact la_eqI F 983 dl_834 (by decide) (kk _ _ R)
theorem cs_23 {p : Program} {l : Launch} {e : Env} {s : State} {m : MethodId} {args : Array Value} {below : List Frame} {meth : Method} {c : Code} {Q : State → Prop} {cf : gm_C} {adC adM : Nat → Nat} {b L : Nat} {xs : Nat → Int32} {C M : gm_M} {i : Nat} (F : gm_LF p s m args meth c cf adC adM b L xs) (hi : i + 5 ≤ L) (hL : L < 2 ^ 31) (R : px_R C M) (kk : ∀ C' M' : gm_M, px_R C' M' → gm_L p l e s m args below meth c Q cf adC adM C' M' 983 [(3, .int (nI i)), (2, .ref (adM 0)), (1, .ref (adC 0)), (0, .ref b)] []) : gm_L p l e s m args below meth c Q cf adC adM C M 839 [(3, .int (nI i)), (2, .ref (adM 0)), (1, .ref (adC 0)), (0, .ref b)] [] := by
  by_cases hz : xs (i + 2) = 0
  · obtain ⟨x, C1, M1, h1, h2, R1⟩ := op_write (fl := 20000) (xs (i + 1)) false (Nat.le_refl _) R
    refine la_aload F dl_839 rfl 2 rfl ?_
    refine la_arg (j := 1) F (by omega) hL rfl rfl rfl dl_840 dl_841 dl_842 dl_843 dl_844 ?_
    refine la_arg (j := 2) F (by omega) hL rfl rfl rfl dl_845 dl_846 dl_847 dl_848 dl_849 ?_
    refine la_ifeq F 857 dl_850 (by decide) (fun _ => ?_) (fun h => absurd hz h)
    refine la_iconst (v := 0) F dl_857 (by decide) ?_
    refine la_callC (As := [.int (xs (i + 1)), .int (nI false.toNat)]) (rest := []) F (Lt_write_c l cf adC h1) wy_Lt_write rfl wm_111 rfl ⟨Nat.le_of_ble_eq_true rfl, Nat.le_of_ble_eq_true rfl⟩ rfl (Nat.le_of_ble_eq_true rfl) dl_858 ?_
    refine la_aload F dl_861 rfl 1 rfl ?_
    refine la_arg (j := 1) F (by omega) hL rfl rfl rfl dl_862 dl_863 dl_864 dl_865 dl_866 ?_
    refine la_arg (j := 2) F (by omega) hL rfl rfl rfl dl_867 dl_868 dl_869 dl_870 dl_871 ?_
    refine la_ifeq F 879 dl_872 (by decide) (fun _ => ?_) (fun h => absurd hz h)
    refine la_iconst (v := 0) F dl_879 (by decide) ?_
    refine la_callM (As := [.int (xs (i + 1)), .int (nI false.toNat)]) (rest := [.int x]) F (Mo_write_c l cf adM h2) wy_Mo_write rfl wm_114 rfl ⟨Nat.le_of_ble_eq_true rfl, Nat.le_of_ble_eq_true rfl⟩ rfl (Nat.le_of_ble_eq_true rfl) dl_880 ?_
    exact la_eqI F 983 dl_883 (by decide) (kk _ _ R1)
  · obtain ⟨x, C1, M1, h1, h2, R1⟩ := op_write (fl := 20000) (xs (i + 1)) true (Nat.le_refl _) R
    refine la_aload F dl_839 rfl 2 rfl ?_
    refine la_arg (j := 1) F (by omega) hL rfl rfl rfl dl_840 dl_841 dl_842 dl_843 dl_844 ?_
    refine la_arg (j := 2) F (by omega) hL rfl rfl rfl dl_845 dl_846 dl_847 dl_848 dl_849 ?_
    refine la_ifeq F 857 dl_850 (by decide) (fun h => absurd h hz) (fun _ => ?_)
    refine la_iconst (v := 1) F dl_853 (by decide) ?_
    refine la_goto F 858 dl_854 (by decide) ?_
    refine la_callC (As := [.int (xs (i + 1)), .int (nI true.toNat)]) (rest := []) F (Lt_write_c l cf adC h1) wy_Lt_write rfl wm_111 rfl ⟨Nat.le_of_ble_eq_true rfl, Nat.le_of_ble_eq_true rfl⟩ rfl (Nat.le_of_ble_eq_true rfl) dl_858 ?_
    refine la_aload F dl_861 rfl 1 rfl ?_
    refine la_arg (j := 1) F (by omega) hL rfl rfl rfl dl_862 dl_863 dl_864 dl_865 dl_866 ?_
    refine la_arg (j := 2) F (by omega) hL rfl rfl rfl dl_867 dl_868 dl_869 dl_870 dl_871 ?_
    refine la_ifeq F 879 dl_872 (by decide) (fun h => absurd h hz) (fun _ => ?_)
    refine la_iconst (v := 1) F dl_875 (by decide) ?_
    refine la_goto F 880 dl_876 (by decide) ?_
    refine la_callM (As := [.int (xs (i + 1)), .int (nI true.toNat)]) (rest := [.int x]) F (Mo_write_c l cf adM h2) wy_Mo_write rfl wm_114 rfl ⟨Nat.le_of_ble_eq_true rfl, Nat.le_of_ble_eq_true rfl⟩ rfl (Nat.le_of_ble_eq_true rfl) dl_880 ?_
    exact la_eqI F 983 dl_883 (by decide) (kk _ _ R1)
theorem cs_24 {p : Program} {l : Launch} {e : Env} {s : State} {m : MethodId} {args : Array Value} {below : List Frame} {meth : Method} {c : Code} {Q : State → Prop} {cf : gm_C} {adC adM : Nat → Nat} {b L : Nat} {xs : Nat → Int32} {C M : gm_M} {i : Nat} (F : gm_LF p s m args meth c cf adC adM b L xs) (hi : i + 5 ≤ L) (hL : L < 2 ^ 31) (R : px_R C M) (kk : ∀ C' M' : gm_M, px_R C' M' → gm_L p l e s m args below meth c Q cf adC adM C' M' 983 [(3, .int (nI i)), (2, .ref (adM 0)), (1, .ref (adC 0)), (0, .ref b)] []) : gm_L p l e s m args below meth c Q cf adC adM C M 888 [(3, .int (nI i)), (2, .ref (adM 0)), (1, .ref (adC 0)), (0, .ref b)] [] := by
  obtain ⟨x, C1, M1, h1, h2, R1⟩ := op_tear (fl := 20000)  (Nat.le_refl _) R
  refine la_aload F dl_888 rfl 2 rfl ?_
  refine la_callC (As := []) (rest := []) F (Lt_tear_c l cf adC h1) wy_Lt_tear rfl wm_115 rfl ⟨Nat.le_of_ble_eq_true rfl, Nat.le_of_ble_eq_true rfl⟩ rfl (Nat.le_of_ble_eq_true rfl) dl_889 ?_
  refine la_aload F dl_892 rfl 1 rfl ?_
  refine la_callM (As := []) (rest := [.int x]) F (Mo_tear_c l cf adM h2) wy_Mo_tear rfl wm_118 rfl ⟨Nat.le_of_ble_eq_true rfl, Nat.le_of_ble_eq_true rfl⟩ rfl (Nat.le_of_ble_eq_true rfl) dl_893 ?_
  exact la_eqI F 983 dl_896 (by decide) (kk _ _ R1)
theorem cs_25 {p : Program} {l : Launch} {e : Env} {s : State} {m : MethodId} {args : Array Value} {below : List Frame} {meth : Method} {c : Code} {Q : State → Prop} {cf : gm_C} {adC adM : Nat → Nat} {b L : Nat} {xs : Nat → Int32} {C M : gm_M} {i : Nat} (F : gm_LF p s m args meth c cf adC adM b L xs) (hi : i + 5 ≤ L) (hL : L < 2 ^ 31) (R : px_R C M) (kk : ∀ C' M' : gm_M, px_R C' M' → gm_L p l e s m args below meth c Q cf adC adM C' M' 983 [(3, .int (nI i)), (2, .ref (adM 0)), (1, .ref (adC 0)), (0, .ref b)] []) : gm_L p l e s m args below meth c Q cf adC adM C M 901 [(3, .int (nI i)), (2, .ref (adM 0)), (1, .ref (adC 0)), (0, .ref b)] [] := by
  obtain ⟨x, h1, h2⟩ := op_judge (fl := 20000)  (Nat.le_refl _) R
  refine la_aload F dl_901 rfl 2 rfl ?_
  refine la_callC (As := []) (rest := []) F (Lt_judge_c l cf adC h1) wy_Lt_judge rfl wm_119 rfl ⟨Nat.le_of_ble_eq_true rfl, Nat.le_of_ble_eq_true rfl⟩ rfl (Nat.le_of_ble_eq_true rfl) dl_902 ?_
  refine la_aload F dl_905 rfl 1 rfl ?_
  refine la_callM (As := []) (rest := [.int x]) F (Mo_judge_c l cf adM h2) wy_Mo_judge rfl wm_122 rfl ⟨Nat.le_of_ble_eq_true rfl, Nat.le_of_ble_eq_true rfl⟩ rfl (Nat.le_of_ble_eq_true rfl) dl_906 ?_
  exact la_eqI F 983 dl_909 (by decide) (kk _ _ R)
theorem cs_26 {p : Program} {l : Launch} {e : Env} {s : State} {m : MethodId} {args : Array Value} {below : List Frame} {meth : Method} {c : Code} {Q : State → Prop} {cf : gm_C} {adC adM : Nat → Nat} {b L : Nat} {xs : Nat → Int32} {C M : gm_M} {i : Nat} (F : gm_LF p s m args meth c cf adC adM b L xs) (hi : i + 5 ≤ L) (hL : L < 2 ^ 31) (R : px_R C M) (kk : ∀ C' M' : gm_M, px_R C' M' → gm_L p l e s m args below meth c Q cf adC adM C' M' 983 [(3, .int (nI i)), (2, .ref (adM 0)), (1, .ref (adC 0)), (0, .ref b)] []) : gm_L p l e s m args below meth c Q cf adC adM C M 914 [(3, .int (nI i)), (2, .ref (adM 0)), (1, .ref (adC 0)), (0, .ref b)] [] := by
  obtain ⟨x, C1, M1, h1, h2, R1⟩ := op_seed (xs (i + 1)) R
  refine la_aload F dl_914 rfl 2 rfl ?_
  refine la_arg (j := 1) F (by omega) hL rfl rfl rfl dl_915 dl_916 dl_917 dl_918 dl_919 ?_
  refine la_callC (As := [.int (xs (i + 1))]) (rest := []) F (Lt_seed_c l cf adC h1) wy_Lt_seed rfl wm_123 rfl ⟨Nat.le_of_ble_eq_true rfl, Nat.le_of_ble_eq_true rfl⟩ rfl (Nat.le_of_ble_eq_true rfl) dl_920 ?_
  refine la_aload F dl_923 rfl 1 rfl ?_
  refine la_arg (j := 1) F (by omega) hL rfl rfl rfl dl_924 dl_925 dl_926 dl_927 dl_928 ?_
  refine la_callM (As := [.int (xs (i + 1))]) (rest := [.int x]) F (Mo_seed_c l cf adM h2) wy_Mo_seed rfl wm_126 rfl ⟨Nat.le_of_ble_eq_true rfl, Nat.le_of_ble_eq_true rfl⟩ rfl (Nat.le_of_ble_eq_true rfl) dl_929 ?_
  exact la_eqI F 983 dl_932 (by decide) (kk _ _ R1)
theorem cs_27 {p : Program} {l : Launch} {e : Env} {s : State} {m : MethodId} {args : Array Value} {below : List Frame} {meth : Method} {c : Code} {Q : State → Prop} {cf : gm_C} {adC adM : Nat → Nat} {b L : Nat} {xs : Nat → Int32} {C M : gm_M} {i : Nat} (F : gm_LF p s m args meth c cf adC adM b L xs) (hi : i + 5 ≤ L) (hL : L < 2 ^ 31) (R : px_R C M) (kk : ∀ C' M' : gm_M, px_R C' M' → gm_L p l e s m args below meth c Q cf adC adM C' M' 983 [(3, .int (nI i)), (2, .ref (adM 0)), (1, .ref (adC 0)), (0, .ref b)] []) : gm_L p l e s m args below meth c Q cf adC adM C M 937 [(3, .int (nI i)), (2, .ref (adM 0)), (1, .ref (adC 0)), (0, .ref b)] [] := by
  obtain ⟨x, C1, M1, h1, h2, R1⟩ := op_keep (fl := 20000) (xs (i + 1)) (Nat.le_refl _) R
  refine la_aload F dl_937 rfl 2 rfl ?_
  refine la_arg (j := 1) F (by omega) hL rfl rfl rfl dl_938 dl_939 dl_940 dl_941 dl_942 ?_
  refine la_callC (As := [.int (xs (i + 1))]) (rest := []) F (Lt_keep_c l cf adC h1) wy_Lt_keep rfl wm_127 rfl ⟨Nat.le_of_ble_eq_true rfl, Nat.le_of_ble_eq_true rfl⟩ rfl (Nat.le_of_ble_eq_true rfl) dl_943 ?_
  refine la_aload F dl_946 rfl 1 rfl ?_
  refine la_arg (j := 1) F (by omega) hL rfl rfl rfl dl_947 dl_948 dl_949 dl_950 dl_951 ?_
  refine la_callM (As := [.int (xs (i + 1))]) (rest := [.int x]) F (Mo_keep_c l cf adM h2) wy_Mo_keep rfl wm_130 rfl ⟨Nat.le_of_ble_eq_true rfl, Nat.le_of_ble_eq_true rfl⟩ rfl (Nat.le_of_ble_eq_true rfl) dl_952 ?_
  exact la_eqI F 983 dl_955 (by decide) (kk _ _ R1)
theorem cs_28 {p : Program} {l : Launch} {e : Env} {s : State} {m : MethodId} {args : Array Value} {below : List Frame} {meth : Method} {c : Code} {Q : State → Prop} {cf : gm_C} {adC adM : Nat → Nat} {b L : Nat} {xs : Nat → Int32} {C M : gm_M} {i : Nat} (F : gm_LF p s m args meth c cf adC adM b L xs) (hi : i + 5 ≤ L) (hL : L < 2 ^ 31) (R : px_R C M) (kk : ∀ C' M' : gm_M, px_R C' M' → gm_L p l e s m args below meth c Q cf adC adM C' M' 983 [(3, .int (nI i)), (2, .ref (adM 0)), (1, .ref (adC 0)), (0, .ref b)] []) : gm_L p l e s m args below meth c Q cf adC adM C M 960 [(3, .int (nI i)), (2, .ref (adM 0)), (1, .ref (adC 0)), (0, .ref b)] [] := by
  obtain ⟨x, C1, M1, h1, h2, R1⟩ := op_goBack (fl := 20000) (xs (i + 1)) (Nat.le_refl _) R
  refine la_aload F dl_960 rfl 2 rfl ?_
  refine la_arg (j := 1) F (by omega) hL rfl rfl rfl dl_961 dl_962 dl_963 dl_964 dl_965 ?_
  refine la_callC (As := [.int (xs (i + 1))]) (rest := []) F (Lt_goBack_c l cf adC h1) wy_Lt_goBack rfl wm_131 rfl ⟨Nat.le_of_ble_eq_true rfl, Nat.le_of_ble_eq_true rfl⟩ rfl (Nat.le_of_ble_eq_true rfl) dl_966 ?_
  refine la_aload F dl_969 rfl 1 rfl ?_
  refine la_arg (j := 1) F (by omega) hL rfl rfl rfl dl_970 dl_971 dl_972 dl_973 dl_974 ?_
  refine la_callM (As := [.int (xs (i + 1))]) (rest := [.int x]) F (Mo_goBack_c l cf adM h2) wy_Mo_goBack rfl wm_134 rfl ⟨Nat.le_of_ble_eq_true rfl, Nat.le_of_ble_eq_true rfl⟩ rfl (Nat.le_of_ble_eq_true rfl) dl_975 ?_
  exact la_eqI F 983 dl_978 (by decide) (kk _ _ R1)
