def sh_10 (cf : gm_C) (h0 : Nat) (w : va_W) : Prop := ∃ (q1 q2 q3 q4 q5 q6 im i1 i2 : Nat) (w1 w2 w3 w4 w5 w6 w7 w8 : va_W) (f : Nat → Option Nat), sh_5 cf q1 w1 ∧ sh_9 cf q2 w2 ∧ sh_3 cf q3 w3 ∧ sh_4 cf q4 w4 ∧ sh_1 cf q5 w5 ∧ sh_0 cf q6 w6 ∧ sh_2 cf i1 w7 ∧ sh_2 cf i2 w8 ∧ f 0 = some i1 ∧ f 1 = some i2 ∧ w = ((h0, .inr (10, [.ref q1, .ref q2, .ref q3, .ref q4, .ref q5, .ref q6, .ref im, .long 0, .int (-1)])) :: (w1 ++ w2 ++ w3 ++ w4 ++ w5 ++ w6)) ++ (im, .inl (cf.2 6, 2, .inr (.inr (.inr (.inr f))))) :: (w7 ++ w8)
theorem di10_0 : decode cX10_init 0 = .ok (.aload_n 0, 1) := by decide +kernel
theorem di10_1 : decode cX10_init 1 = .ok (.invokespecial 1, 3) := by decide +kernel
theorem wi_o10 : Cond.methodLink RX10 1 objectInit ∈ gm_tbl := gm_in_tbl 73 (by decide +kernel) (by decide +kernel)
theorem di10_4 : decode cX10_init 4 = .ok (.aload_n 0, 1) := by decide +kernel
theorem wi_i5 : Cond.initialized RX5 ∈ gm_tbl := gm_in_tbl 54 (by decide +kernel) (by decide +kernel)
theorem yi_5 : gm_yi yX5_init cX5_init 1 := ⟨gm_in_tbl 80 (by decide +kernel) (by decide +kernel), wi_i5, gm_in_tbl 79 (by decide +kernel) (by decide +kernel), rfl, by decide, by decide, by decide +kernel⟩
theorem wi_c10_7 : Cond.classLink RX10 7 RX5 ∈ gm_tbl := gm_in_tbl 76 (by decide +kernel) (by decide +kernel)
theorem wi_n5 : Cond.instantiable RX5 7 ∈ gm_tbl := gm_in_tbl 77 (by decide +kernel) (by decide +kernel)
theorem di10_5 : decode cX10_init 5 = .ok (.new 7, 3) := by decide +kernel
theorem di10_8 : decode cX10_init 8 = .ok (.dup, 1) := by decide +kernel
theorem di10_9 : decode cX10_init 9 = .ok (.invokespecial 9, 3) := by decide +kernel
theorem wi_f10_10 : Cond.fieldLink RX10 10 RX10 (TX10 0).2.1 (TX10 0).2.2.1 ∈ gm_tbl := gm_in_tbl 328 (by decide +kernel) (by decide +kernel)
theorem di10_12 : decode cX10_init 12 = .ok (.putfield 10, 3) := by decide +kernel
theorem di10_15 : decode cX10_init 15 = .ok (.aload_n 0, 1) := by decide +kernel
theorem wi_c10_16 : Cond.classLink RX10 16 RX9 ∈ gm_tbl := gm_in_tbl 175 (by decide +kernel) (by decide +kernel)
theorem di10_16 : decode cX10_init 16 = .ok (.new 16, 3) := by decide +kernel
theorem di10_19 : decode cX10_init 19 = .ok (.dup, 1) := by decide +kernel
theorem di10_20 : decode cX10_init 20 = .ok (.invokespecial 18, 3) := by decide +kernel
theorem wi_f10_19 : Cond.fieldLink RX10 19 RX10 (TX10 1).2.1 (TX10 1).2.2.1 ∈ gm_tbl := gm_in_tbl 329 (by decide +kernel) (by decide +kernel)
theorem di10_23 : decode cX10_init 23 = .ok (.putfield 19, 3) := by decide +kernel
theorem di10_26 : decode cX10_init 26 = .ok (.aload_n 0, 1) := by decide +kernel
theorem wi_i3 : Cond.initialized RX3 ∈ gm_tbl := gm_in_tbl 57 (by decide +kernel) (by decide +kernel)
theorem yi_3 : gm_yi yX3_init cX3_init 1 := ⟨gm_in_tbl 181 (by decide +kernel) (by decide +kernel), wi_i3, gm_in_tbl 180 (by decide +kernel) (by decide +kernel), rfl, by decide, by decide, by decide +kernel⟩
theorem wi_c10_23 : Cond.classLink RX10 23 RX3 ∈ gm_tbl := gm_in_tbl 177 (by decide +kernel) (by decide +kernel)
theorem wi_n3 : Cond.instantiable RX3 10 ∈ gm_tbl := gm_in_tbl 178 (by decide +kernel) (by decide +kernel)
theorem di10_27 : decode cX10_init 27 = .ok (.new 23, 3) := by decide +kernel
theorem di10_30 : decode cX10_init 30 = .ok (.dup, 1) := by decide +kernel
theorem di10_31 : decode cX10_init 31 = .ok (.invokespecial 25, 3) := by decide +kernel
theorem wi_f10_26 : Cond.fieldLink RX10 26 RX10 (TX10 2).2.1 (TX10 2).2.2.1 ∈ gm_tbl := gm_in_tbl 330 (by decide +kernel) (by decide +kernel)
theorem di10_34 : decode cX10_init 34 = .ok (.putfield 26, 3) := by decide +kernel
theorem di10_37 : decode cX10_init 37 = .ok (.aload_n 0, 1) := by decide +kernel
theorem wi_m10_32 : Cond.methodLink RX10 32 yX4_init ∈ gm_tbl := gm_in_tbl 237 (by decide +kernel) (by decide +kernel)
theorem wi_i4 : Cond.initialized RX4 ∈ gm_tbl := gm_in_tbl 59 (by decide +kernel) (by decide +kernel)
theorem yi_4 : gm_yi yX4_init cX4_init 2 := ⟨gm_in_tbl 239 (by decide +kernel) (by decide +kernel), wi_i4, gm_in_tbl 238 (by decide +kernel) (by decide +kernel), rfl, by decide, by decide, by decide +kernel⟩
theorem wi_c10_30 : Cond.classLink RX10 30 RX4 ∈ gm_tbl := gm_in_tbl 235 (by decide +kernel) (by decide +kernel)
theorem wi_n4 : Cond.instantiable RX4 3 ∈ gm_tbl := gm_in_tbl 236 (by decide +kernel) (by decide +kernel)
theorem di10_38 : decode cX10_init 38 = .ok (.new 30, 3) := by decide +kernel
theorem di10_41 : decode cX10_init 41 = .ok (.dup, 1) := by decide +kernel
theorem di10_42 : decode cX10_init 42 = .ok (.invokespecial 32, 3) := by decide +kernel
theorem wi_f10_33 : Cond.fieldLink RX10 33 RX10 (TX10 3).2.1 (TX10 3).2.2.1 ∈ gm_tbl := gm_in_tbl 331 (by decide +kernel) (by decide +kernel)
theorem di10_45 : decode cX10_init 45 = .ok (.putfield 33, 3) := by decide +kernel
theorem di10_48 : decode cX10_init 48 = .ok (.aload_n 0, 1) := by decide +kernel
theorem wi_i1 : Cond.initialized RX1 ∈ gm_tbl := gm_in_tbl 60 (by decide +kernel) (by decide +kernel)
theorem yi_1 : gm_yi yX1_init cX1_init 1 := ⟨gm_in_tbl 259 (by decide +kernel) (by decide +kernel), wi_i1, gm_in_tbl 258 (by decide +kernel) (by decide +kernel), rfl, by decide, by decide, by decide +kernel⟩
theorem wi_c10_37 : Cond.classLink RX10 37 RX1 ∈ gm_tbl := gm_in_tbl 255 (by decide +kernel) (by decide +kernel)
theorem wi_n1 : Cond.instantiable RX1 7 ∈ gm_tbl := gm_in_tbl 256 (by decide +kernel) (by decide +kernel)
theorem di10_49 : decode cX10_init 49 = .ok (.new 37, 3) := by decide +kernel
theorem di10_52 : decode cX10_init 52 = .ok (.dup, 1) := by decide +kernel
theorem di10_53 : decode cX10_init 53 = .ok (.invokespecial 39, 3) := by decide +kernel
theorem wi_f10_40 : Cond.fieldLink RX10 40 RX10 (TX10 4).2.1 (TX10 4).2.2.1 ∈ gm_tbl := gm_in_tbl 332 (by decide +kernel) (by decide +kernel)
theorem di10_56 : decode cX10_init 56 = .ok (.putfield 40, 3) := by decide +kernel
theorem di10_59 : decode cX10_init 59 = .ok (.aload_n 0, 1) := by decide +kernel
theorem wi_i0 : Cond.initialized RX0 ∈ gm_tbl := gm_in_tbl 61 (by decide +kernel) (by decide +kernel)
theorem yi_0 : gm_yi yX0_init cX0_init 1 := ⟨gm_in_tbl 292 (by decide +kernel) (by decide +kernel), wi_i0, gm_in_tbl 291 (by decide +kernel) (by decide +kernel), rfl, by decide, by decide, by decide +kernel⟩
theorem wi_c10_44 : Cond.classLink RX10 44 RX0 ∈ gm_tbl := gm_in_tbl 288 (by decide +kernel) (by decide +kernel)
theorem wi_n0 : Cond.instantiable RX0 3 ∈ gm_tbl := gm_in_tbl 289 (by decide +kernel) (by decide +kernel)
theorem di10_60 : decode cX10_init 60 = .ok (.new 44, 3) := by decide +kernel
theorem di10_63 : decode cX10_init 63 = .ok (.dup, 1) := by decide +kernel
theorem di10_64 : decode cX10_init 64 = .ok (.invokespecial 46, 3) := by decide +kernel
theorem wi_f10_47 : Cond.fieldLink RX10 47 RX10 (TX10 5).2.1 (TX10 5).2.2.1 ∈ gm_tbl := gm_in_tbl 333 (by decide +kernel) (by decide +kernel)
theorem di10_67 : decode cX10_init 67 = .ok (.putfield 47, 3) := by decide +kernel
theorem di10_70 : decode cX10_init 70 = .ok (.aload_n 0, 1) := by decide +kernel
theorem di10_71 : decode cX10_init 71 = .ok (.iconst 2, 1) := by decide +kernel
theorem wi_c10_51 : Cond.classLink RX10 51 RX2 ∈ gm_tbl := gm_in_tbl 308 (by decide +kernel) (by decide +kernel)
theorem di10_72 : decode cX10_init 72 = .ok (.anewarray 51, 3) := by decide +kernel
theorem wi_f10_53 : Cond.fieldLink RX10 53 RX10 (TX10 6).2.1 (TX10 6).2.2.1 ∈ gm_tbl := gm_in_tbl 334 (by decide +kernel) (by decide +kernel)
theorem di10_75 : decode cX10_init 75 = .ok (.putfield 53, 3) := by decide +kernel
theorem di10_78 : decode cX10_init 78 = .ok (.aload_n 0, 1) := by decide +kernel
theorem di10_79 : decode cX10_init 79 = .ok (.iconst (-1), 1) := by decide +kernel
theorem wi_f10_57 : Cond.fieldLink RX10 57 RX10 (TX10 8).2.1 (TX10 8).2.2.1 ∈ gm_tbl := gm_in_tbl 336 (by decide +kernel) (by decide +kernel)
theorem di10_80 : decode cX10_init 80 = .ok (.putfield 57, 3) := by decide +kernel
theorem di10_83 : decode cX10_init 83 = .ok (.iconst 0, 1) := by decide +kernel
theorem di10_84 : decode cX10_init 84 = .ok (.istore_n 1, 1) := by decide +kernel
theorem di10_85 : decode cX10_init 85 = .ok (.iload_n 1, 1) := by decide +kernel
theorem di10_86 : decode cX10_init 86 = .ok (.iconst 2, 1) := by decide +kernel
theorem di10_87 : decode cX10_init 87 = .ok (.if_icmp .ge 22, 3) := by decide +kernel
theorem di10_90 : decode cX10_init 90 = .ok (.aload_n 0, 1) := by decide +kernel
theorem di10_91 : decode cX10_init 91 = .ok (.getfield 53, 3) := by decide +kernel
theorem di10_94 : decode cX10_init 94 = .ok (.iload_n 1, 1) := by decide +kernel
theorem di10_102 : decode cX10_init 102 = .ok (.aastore, 1) := by decide +kernel
theorem di10_103 : decode cX10_init 103 = .ok (.iinc 1 1, 3) := by decide +kernel
theorem di10_106 : decode cX10_init 106 = .ok (.goto (-21), 3) := by decide +kernel
theorem di10_109 : decode cX10_init 109 = .ok (.return_, 1) := by decide +kernel
theorem wi_i2 : Cond.initialized RX2 ∈ gm_tbl := gm_in_tbl 62 (by decide +kernel) (by decide +kernel)
theorem yi_2 : gm_yi yX2_init cX2_init 1 := ⟨gm_in_tbl 313 (by decide +kernel) (by decide +kernel), wi_i2, gm_in_tbl 312 (by decide +kernel) (by decide +kernel), rfl, by decide, by decide, by decide +kernel⟩
theorem wi_n2 : Cond.instantiable RX2 3 ∈ gm_tbl := gm_in_tbl 310 (by decide +kernel) (by decide +kernel)
theorem di10_95 : decode cX10_init 95 = .ok (.new 51, 3) := by decide +kernel
theorem di10_98 : decode cX10_init 98 = .ok (.dup, 1) := by decide +kernel
theorem di10_99 : decode cX10_init 99 = .ok (.invokespecial 61, 3) := by decide +kernel
theorem gm_ix (pre post y : va_W) (x : Nat × va_E) : (pre ++ x :: (post ++ y))[pre.length + 1 + post.length]? = y[0]? := by
  rw [List.getElem?_append_right (by omega), show pre.length + 1 + post.length - pre.length = post.length + 1 by omega, List.getElem?_cons_succ, List.getElem?_append_right (Nat.le_refl _), Nat.sub_self]
set_option maxHeartbeats 20000000 in
set_option maxRecDepth 20000 in
theorem ini_10 (l : Launch) (cf : gm_C) : gm_Ini l yX10_init cX10_init 2 3 53 105 2224 cf 10 fi_10 (sh_10 cf) := by
  refine gm_ini (by decide +kernel) rfl (by decide) ?_
  intro p e s m args below meth c A h0 C hr
  have C : gm_IF p s m args meth c cf A cX10_init 2 RX10 := C
  unfold fi_10
  refine ci_aload C di10_0 rfl 0 rfl ?_
  refine ci_obj C wi_o10 wi_oi wi_oc di10_1 (by decide) (by decide) ?_
  refine ci_aload C di10_4 rfl 0 rfl ?_
  refine ci_mk C (ini_5 l cf) kc_5 yi_5 wi_c10_7 wi_n5 wi_i5 (fun j hj => by rcases (show j = 0 ∨ j = 1 ∨ j = 2 ∨ j = 3 ∨ j = 4 ∨ j = 5 ∨ j = 6 by omega) with rfl | rfl | rfl | rfl | rfl | rfl | rfl <;> rfl) (Or.inl (by decide +kernel)) ⟨Nat.le_of_ble_eq_true rfl, Nat.le_of_ble_eq_true rfl⟩ (Nat.le_of_ble_eq_true rfl) (Nat.le_of_ble_eq_true rfl) (Nat.le_of_ble_eq_true rfl) di10_5 di10_8 di10_9 (fun q1 w1 s1 => ?_)
  refine ci_putF (k := 0) (ty1 := .object RX5) C kc_10 (by decide) rfl rfl rfl (by decide +kernel) rfl rfl (Nat.le_of_ble_eq_true rfl) wi_f10_10 di10_12 ?_
  refine ci_aload C di10_15 rfl 0 rfl ?_
  refine ci_mk C (ini_9 l cf) kc_9 yi_9 wi_c10_16 wi_n9 wi_i9 (fun j hj => by rcases (show j = 0 ∨ j = 1 ∨ j = 2 ∨ j = 3 ∨ j = 4 ∨ j = 5 ∨ j = 6 ∨ j = 7 ∨ j = 8 by omega) with rfl | rfl | rfl | rfl | rfl | rfl | rfl | rfl | rfl <;> rfl) (Or.inl (by decide +kernel)) ⟨Nat.le_of_ble_eq_true rfl, Nat.le_of_ble_eq_true rfl⟩ (Nat.le_of_ble_eq_true rfl) (Nat.le_of_ble_eq_true rfl) (Nat.le_of_ble_eq_true rfl) di10_16 di10_19 di10_20 (fun q2 w2 s2 => ?_)
  refine ci_putF (k := 1) (ty1 := .object RX9) C kc_10 (by decide) rfl rfl rfl (by decide +kernel) rfl rfl (Nat.le_of_ble_eq_true rfl) wi_f10_19 di10_23 ?_
  refine ci_aload C di10_26 rfl 0 rfl ?_
  refine ci_mk C (ini_3 l cf) kc_3 yi_3 wi_c10_23 wi_n3 wi_i3 (fun j hj => by rcases (show j = 0 ∨ j = 1 ∨ j = 2 ∨ j = 3 ∨ j = 4 ∨ j = 5 ∨ j = 6 ∨ j = 7 ∨ j = 8 ∨ j = 9 by omega) with rfl | rfl | rfl | rfl | rfl | rfl | rfl | rfl | rfl | rfl <;> rfl) (Or.inl (by decide +kernel)) ⟨Nat.le_of_ble_eq_true rfl, Nat.le_of_ble_eq_true rfl⟩ (Nat.le_of_ble_eq_true rfl) (Nat.le_of_ble_eq_true rfl) (Nat.le_of_ble_eq_true rfl) di10_27 di10_30 di10_31 (fun q3 w3 s3 => ?_)
  refine ci_putF (k := 2) (ty1 := .object RX3) C kc_10 (by decide) rfl rfl rfl (by decide +kernel) rfl rfl (Nat.le_of_ble_eq_true rfl) wi_f10_26 di10_34 ?_
  refine ci_aload C di10_37 rfl 0 rfl ?_
  refine ci_mk C (ini_4 l cf) kc_4 yi_4 wi_c10_30 wi_n4 wi_i4 (fun j hj => by rcases (show j = 0 ∨ j = 1 ∨ j = 2 by omega) with rfl | rfl | rfl <;> rfl) (Or.inr wi_m10_32) ⟨Nat.le_of_ble_eq_true rfl, Nat.le_of_ble_eq_true rfl⟩ (Nat.le_of_ble_eq_true rfl) (Nat.le_of_ble_eq_true rfl) (Nat.le_of_ble_eq_true rfl) di10_38 di10_41 di10_42 (fun q4 w4 s4 => ?_)
  refine ci_putF (k := 3) (ty1 := .object RX4) C kc_10 (by decide) rfl rfl rfl (by decide +kernel) rfl rfl (Nat.le_of_ble_eq_true rfl) wi_f10_33 di10_45 ?_
  refine ci_aload C di10_48 rfl 0 rfl ?_
  refine ci_mk C (ini_1 l cf) kc_1 yi_1 wi_c10_37 wi_n1 wi_i1 (fun j hj => by rcases (show j = 0 ∨ j = 1 ∨ j = 2 ∨ j = 3 ∨ j = 4 ∨ j = 5 ∨ j = 6 by omega) with rfl | rfl | rfl | rfl | rfl | rfl | rfl <;> rfl) (Or.inl (by decide +kernel)) ⟨Nat.le_of_ble_eq_true rfl, Nat.le_of_ble_eq_true rfl⟩ (Nat.le_of_ble_eq_true rfl) (Nat.le_of_ble_eq_true rfl) (Nat.le_of_ble_eq_true rfl) di10_49 di10_52 di10_53 (fun q5 w5 s5 => ?_)
  refine ci_putF (k := 4) (ty1 := .object RX1) C kc_10 (by decide) rfl rfl rfl (by decide +kernel) rfl rfl (Nat.le_of_ble_eq_true rfl) wi_f10_40 di10_56 ?_
  refine ci_aload C di10_59 rfl 0 rfl ?_
  refine ci_mk C (ini_0 l cf) kc_0 yi_0 wi_c10_44 wi_n0 wi_i0 (fun j hj => by rcases (show j = 0 ∨ j = 1 ∨ j = 2 by omega) with rfl | rfl | rfl <;> rfl) (Or.inl (by decide +kernel)) ⟨Nat.le_of_ble_eq_true rfl, Nat.le_of_ble_eq_true rfl⟩ (Nat.le_of_ble_eq_true rfl) (Nat.le_of_ble_eq_true rfl) (Nat.le_of_ble_eq_true rfl) di10_60 di10_63 di10_64 (fun q6 w6 s6 => ?_)
  refine ci_putF (k := 5) (ty1 := .object RX0) C kc_10 (by decide) rfl rfl rfl (by decide +kernel) rfl rfl (Nat.le_of_ble_eq_true rfl) wi_f10_47 di10_67 ?_
  refine ci_aload C di10_70 rfl 0 rfl ?_
  refine ci_iconst (v := 2) C di10_71 (by decide) ?_
  refine ci_newq (N' := 2) (j := 6) C wi_c10_51 (by decide +kernel) rfl (by decide) (by decide) (Nat.le_of_ble_eq_true rfl) (Nat.le_of_ble_eq_true rfl) (Nat.le_of_ble_eq_true rfl) di10_72 (fun im => ?_)
  refine ci_putF (k := 6) (ty1 := .array (.object RX2)) C kc_10 (by decide) rfl rfl rfl (by decide +kernel) rfl rfl (Nat.le_of_ble_eq_true rfl) wi_f10_53 di10_75 ?_
  refine ci_aload C di10_78 rfl 0 rfl ?_
  refine ci_iconst (v := -1) C di10_79 (by decide) ?_
  refine ci_put (k := 8) (ty1 := .int) C kc_10 (by decide) rfl rfl (by decide +kernel) rfl rfl (Nat.le_of_ble_eq_true rfl) wi_f10_57 di10_80 ?_
  refine ci_iconst (v := 0) C di10_83 (by decide) ?_
  refine ci_istore (lv' := [(1, .int 0), (0, .ref h0)]) C di10_84 rfl (by decide) rfl ?_
  refine ci_w (ws' := ((h0, .inr (10, [.ref q1, .ref q2, .ref q3, .ref q4, .ref q5, .ref q6, .ref im, .long 0, .int (-1)])) :: (w1 ++ w2 ++ w3 ++ w4 ++ w5 ++ w6)) ++ (im, .inl (cf.2 6, 2, .inr (.inr (.inr (.inr (fun _ => none)))))) :: []) rfl ?_
  obtain ⟨RS, hRS⟩ : ∃ RS, RS = w1 ++ w2 ++ w3 ++ w4 ++ w5 ++ w6 := ⟨_, rfl⟩
  rw [← hRS]
  refine ci_iload C di10_85 rfl 0 rfl ?_
  refine ci_iconst (v := 2) C di10_86 (by decide) ?_
  refine ci_icmp_ge C 109 di10_87 (by decide) (fun h => absurd h (by decide)) (fun _ => ?_)
  refine ci_aload C di10_90 rfl 1 rfl ?_
  refine ci_get (k := 6) (x := im) C kc_10 (by decide) rfl rfl wi_f10_53 di10_91 ?_
  refine ci_iload C di10_94 rfl 0 rfl ?_
  refine ci_mk C (ini_2 l cf) kc_2 yi_2 wi_c10_51 wi_n2 wi_i2 (fun j hj => by rcases (show j = 0 ∨ j = 1 ∨ j = 2 by omega) with rfl | rfl | rfl <;> rfl) (Or.inl (by decide +kernel)) ⟨Nat.le_of_ble_eq_true rfl, Nat.le_of_ble_eq_true rfl⟩ (Nat.le_of_ble_eq_true rfl) (Nat.le_of_ble_eq_true rfl) (Nat.le_of_ble_eq_true rfl) di10_95 di10_98 di10_99 (fun i1 w7 s7 => ?_)
  obtain ⟨r0, rfl, rfl⟩ := s7
  refine ci_w (ws' := ((h0, .inr (10, [.ref q1, .ref q2, .ref q3, .ref q4, .ref q5, .ref q6, .ref im, .long 0, .int (-1)])) :: RS) ++ (im, .inl (cf.2 6, 2, .inr (.inr (.inr (.inr (fun _ => none)))))) :: ([] ++ wd_2 cf r0)) (by simp) ?_
  refine ci_ast (t0 := 6) (r := (RX2, TX2, 3)) (ci := 2) (qk := ((h0, .inr (10, [.ref q1, .ref q2, .ref q3, .ref q4, .ref q5, .ref q6, .ref im, .long 0, .int (-1)])) :: RS).length + 1 + ([] : va_W).length) C rfl ((gm_ix _ _ _ _).trans rfl) rfl (by unfold vp_in; decide) di10_102 ?_
  refine ci_iinc (j := 0) (v := 1) C di10_103 rfl (by decide) (by decide) rfl ?_
  refine ci_goto C 85 di10_106 (by decide) ?_
  refine ci_iload C di10_85 rfl 0 rfl ?_
  refine ci_iconst (v := 2) C di10_86 (by decide) ?_
  refine ci_icmp_ge C 109 di10_87 (by decide) (fun h => absurd h (by decide)) (fun _ => ?_)
  refine ci_aload C di10_90 rfl 1 rfl ?_
  refine ci_get (k := 6) (x := im) C kc_10 (by decide) rfl rfl wi_f10_53 di10_91 ?_
  refine ci_iload C di10_94 rfl 0 rfl ?_
  refine ci_mk C (ini_2 l cf) kc_2 yi_2 wi_c10_51 wi_n2 wi_i2 (fun j hj => by rcases (show j = 0 ∨ j = 1 ∨ j = 2 by omega) with rfl | rfl | rfl <;> rfl) (Or.inl (by decide +kernel)) ⟨Nat.le_of_ble_eq_true rfl, Nat.le_of_ble_eq_true rfl⟩ (Nat.le_of_ble_eq_true rfl) (Nat.le_of_ble_eq_true rfl) (Nat.le_of_ble_eq_true rfl) di10_95 di10_98 di10_99 (fun i2 w8 s8 => ?_)
  obtain ⟨r1, rfl, rfl⟩ := s8
  refine ci_w (ws' := ((h0, .inr (10, [.ref q1, .ref q2, .ref q3, .ref q4, .ref q5, .ref q6, .ref im, .long 0, .int (-1)])) :: RS) ++ (im, .inl (cf.2 6, 2, .inr (.inr (.inr (.inr (va_up (fun _ => none) (0 : Int32).toNatClampNeg (some (r0 0)))))))) :: (([] ++ wd_2 cf r0) ++ wd_2 cf r1)) (by simp) ?_
  refine ci_ast (t0 := 6) (r := (RX2, TX2, 3)) (ci := 2) (qk := ((h0, .inr (10, [.ref q1, .ref q2, .ref q3, .ref q4, .ref q5, .ref q6, .ref im, .long 0, .int (-1)])) :: RS).length + 1 + (([] ++ wd_2 cf r0) : va_W).length) C rfl ((gm_ix _ _ _ _).trans rfl) rfl (by unfold vp_in; decide) di10_102 ?_
  refine ci_iinc (j := 0) (v := 2) C di10_103 rfl (by decide) (by decide) rfl ?_
  refine ci_goto C 85 di10_106 (by decide) ?_
  refine ci_iload C di10_85 rfl 0 rfl ?_
  refine ci_iconst (v := 2) C di10_86 (by decide) ?_
  refine ci_icmp_ge C 109 di10_87 (by decide) (fun _ => ?_) (fun h => absurd (by decide) h)
  refine ci_ret C hr di10_109 (fun _ h1 h2 => ⟨h1, h2⟩) ?_
  subst hRS
  exact ⟨q1, q2, q3, q4, q5, q6, im, r0 0, r1 0, w1, w2, w3, w4, w5, w6, wd_2 cf r0, wd_2 cf r1, _, s1, s2, s3, s4, s5, s6, ⟨r0, rfl, rfl⟩, ⟨r1, rfl, rfl⟩, rfl, rfl, rfl⟩
