def wd_2 (cf : gm_C) (q : Nat → Nat) : va_W := [(q 0, .inr (2, [.ref (q 1), .int 0, .long 0])), (q 1, .inr (9, [.ref (q 2), .ref (q 3), .ref (q 4), .int 0, .int 0, .int 0, .int 0, .int 0, .int 0])), (q 2, .inl (cf.2 0, 4, .inl (fun _ => 0))), (q 3, .inl (cf.2 0, 8, .inl (fun _ => 0))), (q 4, .inl (cf.2 0, 25, .inl (fun _ => 0)))]
def sh_2 (cf : gm_C) (h0 : Nat) (w : va_W) : Prop := ∃ q : Nat → Nat, q 0 = h0 ∧ w = wd_2 cf q
theorem di2_0 : decode cX2_init 0 = .ok (.aload_n 0, 1) := by decide +kernel
theorem di2_1 : decode cX2_init 1 = .ok (.invokespecial 1, 3) := by decide +kernel
theorem wi_o2 : Cond.methodLink RX2 1 objectInit ∈ gm_tbl := gm_in_tbl 314 (by decide +kernel) (by decide +kernel)
theorem di2_4 : decode cX2_init 4 = .ok (.aload_n 0, 1) := by decide +kernel
theorem di2_5 : decode cX2_init 5 = .ok (.new 7, 3) := by decide +kernel
theorem di2_8 : decode cX2_init 8 = .ok (.dup, 1) := by decide +kernel
theorem di2_9 : decode cX2_init 9 = .ok (.invokespecial 9, 3) := by decide +kernel
theorem wi_i9 : Cond.initialized RX9 ∈ gm_tbl := gm_in_tbl 56 (by decide +kernel) (by decide +kernel)
theorem yi_9 : gm_yi yX9_init cX9_init 1 := ⟨gm_in_tbl 102 (by decide +kernel) (by decide +kernel), wi_i9, gm_in_tbl 101 (by decide +kernel) (by decide +kernel), rfl, by decide, by decide, by decide +kernel⟩
theorem wi_c2_7 : Cond.classLink RX2 7 RX9 ∈ gm_tbl := gm_in_tbl 315 (by decide +kernel) (by decide +kernel)
theorem wi_n9 : Cond.instantiable RX9 9 ∈ gm_tbl := gm_in_tbl 99 (by decide +kernel) (by decide +kernel)
theorem di2_12 : decode cX2_init 12 = .ok (.putfield 10, 3) := by decide +kernel
theorem wi_f2_10 : Cond.fieldLink RX2 10 RX2 (TX2 0).2.1 (TX2 0).2.2.1 ∈ gm_tbl := gm_in_tbl 317 (by decide +kernel) (by decide +kernel)
theorem di2_15 : decode cX2_init 15 = .ok (.return_, 1) := by decide +kernel
set_option maxHeartbeats 20000000 in
set_option maxRecDepth 20000 in
theorem ini_2 (l : Launch) (cf : gm_C) : gm_Ini l yX2_init cX2_init 1 2 32 4 46 cf 2 fi_2 (sh_2 cf) := by
  refine gm_ini (by decide +kernel) rfl (by decide) ?_
  intro p e s m args below meth c A h0 C hr
  have C : gm_IF p s m args meth c cf A cX2_init 1 RX2 := C
  unfold fi_2
  refine ci_aload C di2_0 rfl 0 rfl ?_
  refine ci_obj C wi_o2 wi_oi wi_oc di2_1 (by decide) (by decide) ?_
  refine ci_aload C di2_4 rfl 0 rfl ?_
  refine ci_mk C (ini_9 l cf) kc_9 yi_9 wi_c2_7 wi_n9 wi_i9 (fun j hj => by rcases (show j = 0 ∨ j = 1 ∨ j = 2 ∨ j = 3 ∨ j = 4 ∨ j = 5 ∨ j = 6 ∨ j = 7 ∨ j = 8 by omega) with rfl | rfl | rfl | rfl | rfl | rfl | rfl | rfl | rfl <;> rfl) (Or.inl (by decide +kernel)) ⟨Nat.le_of_ble_eq_true rfl, Nat.le_of_ble_eq_true rfl⟩ (Nat.le_of_ble_eq_true rfl) (Nat.le_of_ble_eq_true rfl) (Nat.le_of_ble_eq_true rfl) di2_5 di2_8 di2_9 (fun q1 w1 s1 => ?_)
  refine ci_putF (k := 0) (ty1 := .object RX9) C kc_2 (by decide) rfl rfl rfl (by decide +kernel) rfl rfl (Nat.le_of_ble_eq_true rfl) wi_f2_10 di2_12 ?_
  exact ci_ret C hr di2_15 (fun _ h1 h2 => ⟨h1, h2⟩) (by
    obtain ⟨r, rfl, rfl⟩ := s1
    exact ⟨fun i => [h0, r 0, r 1, r 2, r 3].getD i 0, rfl, rfl⟩)
def wd_1 (cf : gm_C) (q : Nat → Nat) : va_W := [(q 0, .inr (1, [.ref (q 1), .ref (q 2), .int 0, .int 0, .int 0, .int (-1), .int 0])), (q 1, .inl (cf.2 0, 171, .inl (fun _ => 0))), (q 2, .inr (8, [.ref (q 3), .int 0, .int 0])), (q 3, .inl (cf.2 0, 4, .inl (fun _ => 0)))]
def sh_1 (cf : gm_C) (h0 : Nat) (w : va_W) : Prop := ∃ q : Nat → Nat, q 0 = h0 ∧ w = wd_1 cf q
theorem di1_0 : decode cX1_init 0 = .ok (.aload_n 0, 1) := by decide +kernel
theorem di1_1 : decode cX1_init 1 = .ok (.invokespecial 3, 3) := by decide +kernel
theorem wi_o1 : Cond.methodLink RX1 3 objectInit ∈ gm_tbl := gm_in_tbl 260 (by decide +kernel) (by decide +kernel)
theorem di1_4 : decode cX1_init 4 = .ok (.aload_n 0, 1) := by decide +kernel
theorem di1_5 : decode cX1_init 5 = .ok (.sipush 171, 3) := by decide +kernel
theorem di1_8 : decode cX1_init 8 = .ok (.newarray .int, 2) := by decide +kernel
theorem di1_10 : decode cX1_init 10 = .ok (.putfield 11, 3) := by decide +kernel
theorem wi_f1_11 : Cond.fieldLink RX1 11 RX1 (TX1 0).2.1 (TX1 0).2.2.1 ∈ gm_tbl := gm_in_tbl 263 (by decide +kernel) (by decide +kernel)
theorem di1_13 : decode cX1_init 13 = .ok (.aload_n 0, 1) := by decide +kernel
theorem di1_14 : decode cX1_init 14 = .ok (.new 17, 3) := by decide +kernel
theorem di1_17 : decode cX1_init 17 = .ok (.dup, 1) := by decide +kernel
theorem di1_18 : decode cX1_init 18 = .ok (.invokespecial 19, 3) := by decide +kernel
theorem wi_i8 : Cond.initialized RX8 ∈ gm_tbl := gm_in_tbl 58 (by decide +kernel) (by decide +kernel)
theorem yi_8 : gm_yi yX8_init cX8_init 1 := ⟨gm_in_tbl 189 (by decide +kernel) (by decide +kernel), wi_i8, gm_in_tbl 188 (by decide +kernel) (by decide +kernel), rfl, by decide, by decide, by decide +kernel⟩
theorem wi_c1_17 : Cond.classLink RX1 17 RX8 ∈ gm_tbl := gm_in_tbl 261 (by decide +kernel) (by decide +kernel)
theorem wi_n8 : Cond.instantiable RX8 3 ∈ gm_tbl := gm_in_tbl 186 (by decide +kernel) (by decide +kernel)
theorem di1_21 : decode cX1_init 21 = .ok (.putfield 20, 3) := by decide +kernel
theorem wi_f1_20 : Cond.fieldLink RX1 20 RX1 (TX1 1).2.1 (TX1 1).2.2.1 ∈ gm_tbl := gm_in_tbl 265 (by decide +kernel) (by decide +kernel)
theorem di1_24 : decode cX1_init 24 = .ok (.aload_n 0, 1) := by decide +kernel
theorem di1_25 : decode cX1_init 25 = .ok (.iconst (-1), 1) := by decide +kernel
theorem di1_26 : decode cX1_init 26 = .ok (.putfield 24, 3) := by decide +kernel
theorem wi_f1_24 : Cond.fieldLink RX1 24 RX1 (TX1 5).2.1 (TX1 5).2.2.1 ∈ gm_tbl := gm_in_tbl 271 (by decide +kernel) (by decide +kernel)
theorem di1_29 : decode cX1_init 29 = .ok (.return_, 1) := by decide +kernel
set_option maxHeartbeats 20000000 in
set_option maxRecDepth 20000 in
theorem ini_1 (l : Launch) (cf : gm_C) : gm_Ini l yX1_init cX1_init 1 2 32 3 178 cf 1 fi_1 (sh_1 cf) := by
  refine gm_ini (by decide +kernel) rfl (by decide) ?_
  intro p e s m args below meth c A h0 C hr
  have C : gm_IF p s m args meth c cf A cX1_init 1 RX1 := C
  unfold fi_1
  refine ci_aload C di1_0 rfl 0 rfl ?_
  refine ci_obj C wi_o1 wi_oi wi_oc di1_1 (by decide) (by decide) ?_
  refine ci_aload C di1_4 rfl 0 rfl ?_
  refine ci_sipush (v := 171) C di1_5 (by decide) ?_
  refine ci_newa (atype := .int) (ty := .int) (N' := 171) (j := 0) (a0 := (171, .inl (fun _ => 0))) C wi_a_int rfl rfl (fun _ => rfl) (by decide) (by decide) (Nat.le_of_ble_eq_true rfl) (Nat.le_of_ble_eq_true rfl) (Nat.le_of_ble_eq_true rfl) di1_8 (fun q1 => ?_)
  refine ci_putF (k := 0) (ty1 := .array .int) C kc_1 (by decide) rfl rfl rfl (by decide +kernel) rfl rfl (Nat.le_of_ble_eq_true rfl) wi_f1_11 di1_10 ?_
  refine ci_aload C di1_13 rfl 0 rfl ?_
  refine ci_mk C (ini_8 l cf) kc_8 yi_8 wi_c1_17 wi_n8 wi_i8 (fun j hj => by rcases (show j = 0 ∨ j = 1 ∨ j = 2 by omega) with rfl | rfl | rfl <;> rfl) (Or.inl (by decide +kernel)) ⟨Nat.le_of_ble_eq_true rfl, Nat.le_of_ble_eq_true rfl⟩ (Nat.le_of_ble_eq_true rfl) (Nat.le_of_ble_eq_true rfl) (Nat.le_of_ble_eq_true rfl) di1_14 di1_17 di1_18 (fun q2 w2 s2 => ?_)
  refine ci_putF (k := 1) (ty1 := .object RX8) C kc_1 (by decide) rfl rfl rfl (by decide +kernel) rfl rfl (Nat.le_of_ble_eq_true rfl) wi_f1_20 di1_21 ?_
  refine ci_aload C di1_24 rfl 0 rfl ?_
  refine ci_iconst (v := -1) C di1_25 (by decide) ?_
  refine ci_put (k := 5) (ty1 := .int) C kc_1 (by decide) rfl rfl (by decide +kernel) rfl rfl (Nat.le_of_ble_eq_true rfl) wi_f1_24 di1_26 ?_
  exact ci_ret C hr di1_29 (fun _ h1 h2 => ⟨h1, h2⟩) (by
    obtain ⟨r, rfl, rfl⟩ := s2
    exact ⟨fun i => [h0, q1, r 0, r 1].getD i 0, rfl, rfl⟩)
def wd_5 (cf : gm_C) (q : Nat → Nat) : va_W := [(q 0, .inr (5, [.ref (q 1), .ref (q 3), .int 0, .int 0, .int 0, .int 0, .int 0])), (q 1, .inr (7, [.ref (q 2), .int 0])), (q 2, .inl (cf.2 1, 240, .inl (fun _ => 0))), (q 3, .inr (9, [.ref (q 4), .ref (q 5), .ref (q 6), .int 0, .int 0, .int 0, .int 0, .int 0, .int 0])), (q 4, .inl (cf.2 0, 4, .inl (fun _ => 0))), (q 5, .inl (cf.2 0, 8, .inl (fun _ => 0))), (q 6, .inl (cf.2 0, 25, .inl (fun _ => 0)))]
def sh_5 (cf : gm_C) (h0 : Nat) (w : va_W) : Prop := ∃ q : Nat → Nat, q 0 = h0 ∧ w = wd_5 cf q
theorem di5_0 : decode cX5_init 0 = .ok (.aload_n 0, 1) := by decide +kernel
theorem di5_1 : decode cX5_init 1 = .ok (.invokespecial 3, 3) := by decide +kernel
theorem wi_o5 : Cond.methodLink RX5 3 objectInit ∈ gm_tbl := gm_in_tbl 81 (by decide +kernel) (by decide +kernel)
theorem di5_4 : decode cX5_init 4 = .ok (.aload_n 0, 1) := by decide +kernel
theorem di5_5 : decode cX5_init 5 = .ok (.new 9, 3) := by decide +kernel
theorem di5_8 : decode cX5_init 8 = .ok (.dup, 1) := by decide +kernel
theorem di5_9 : decode cX5_init 9 = .ok (.invokespecial 11, 3) := by decide +kernel
theorem wi_i7 : Cond.initialized RX7 ∈ gm_tbl := gm_in_tbl 55 (by decide +kernel) (by decide +kernel)
theorem yi_7 : gm_yi yX7_init cX7_init 1 := ⟨gm_in_tbl 86 (by decide +kernel) (by decide +kernel), wi_i7, gm_in_tbl 85 (by decide +kernel) (by decide +kernel), rfl, by decide, by decide, by decide +kernel⟩
theorem wi_c5_9 : Cond.classLink RX5 9 RX7 ∈ gm_tbl := gm_in_tbl 82 (by decide +kernel) (by decide +kernel)
theorem wi_n7 : Cond.instantiable RX7 2 ∈ gm_tbl := gm_in_tbl 83 (by decide +kernel) (by decide +kernel)
theorem di5_12 : decode cX5_init 12 = .ok (.putfield 12, 3) := by decide +kernel
theorem wi_f5_12 : Cond.fieldLink RX5 12 RX5 (TX5 0).2.1 (TX5 0).2.2.1 ∈ gm_tbl := gm_in_tbl 149 (by decide +kernel) (by decide +kernel)
theorem di5_15 : decode cX5_init 15 = .ok (.aload_n 0, 1) := by decide +kernel
theorem di5_16 : decode cX5_init 16 = .ok (.new 18, 3) := by decide +kernel
theorem di5_19 : decode cX5_init 19 = .ok (.dup, 1) := by decide +kernel
theorem di5_20 : decode cX5_init 20 = .ok (.invokespecial 20, 3) := by decide +kernel
theorem wi_c5_18 : Cond.classLink RX5 18 RX9 ∈ gm_tbl := gm_in_tbl 98 (by decide +kernel) (by decide +kernel)
theorem di5_23 : decode cX5_init 23 = .ok (.putfield 21, 3) := by decide +kernel
theorem wi_f5_21 : Cond.fieldLink RX5 21 RX5 (TX5 1).2.1 (TX5 1).2.2.1 ∈ gm_tbl := gm_in_tbl 151 (by decide +kernel) (by decide +kernel)
theorem di5_26 : decode cX5_init 26 = .ok (.return_, 1) := by decide +kernel
set_option maxHeartbeats 20000000 in
set_option maxRecDepth 20000 in
theorem ini_5 (l : Launch) (cf : gm_C) : gm_Ini l yX5_init cX5_init 1 2 32 6 288 cf 5 fi_5 (sh_5 cf) := by
  refine gm_ini (by decide +kernel) rfl (by decide) ?_
  intro p e s m args below meth c A h0 C hr
  have C : gm_IF p s m args meth c cf A cX5_init 1 RX5 := C
  unfold fi_5
  refine ci_aload C di5_0 rfl 0 rfl ?_
  refine ci_obj C wi_o5 wi_oi wi_oc di5_1 (by decide) (by decide) ?_
  refine ci_aload C di5_4 rfl 0 rfl ?_
  refine ci_mk C (ini_7 l cf) kc_7 yi_7 wi_c5_9 wi_n7 wi_i7 (fun j hj => by rcases (show j = 0 ∨ j = 1 by omega) with rfl | rfl <;> rfl) (Or.inl (by decide +kernel)) ⟨Nat.le_of_ble_eq_true rfl, Nat.le_of_ble_eq_true rfl⟩ (Nat.le_of_ble_eq_true rfl) (Nat.le_of_ble_eq_true rfl) (Nat.le_of_ble_eq_true rfl) di5_5 di5_8 di5_9 (fun q1 w1 s1 => ?_)
  refine ci_putF (k := 0) (ty1 := .object RX7) C kc_5 (by decide) rfl rfl rfl (by decide +kernel) rfl rfl (Nat.le_of_ble_eq_true rfl) wi_f5_12 di5_12 ?_
  refine ci_aload C di5_15 rfl 0 rfl ?_
  refine ci_mk C (ini_9 l cf) kc_9 yi_9 wi_c5_18 wi_n9 wi_i9 (fun j hj => by rcases (show j = 0 ∨ j = 1 ∨ j = 2 ∨ j = 3 ∨ j = 4 ∨ j = 5 ∨ j = 6 ∨ j = 7 ∨ j = 8 by omega) with rfl | rfl | rfl | rfl | rfl | rfl | rfl | rfl | rfl <;> rfl) (Or.inl (by decide +kernel)) ⟨Nat.le_of_ble_eq_true rfl, Nat.le_of_ble_eq_true rfl⟩ (Nat.le_of_ble_eq_true rfl) (Nat.le_of_ble_eq_true rfl) (Nat.le_of_ble_eq_true rfl) di5_16 di5_19 di5_20 (fun q2 w2 s2 => ?_)
  refine ci_putF (k := 1) (ty1 := .object RX9) C kc_5 (by decide) rfl rfl rfl (by decide +kernel) rfl rfl (Nat.le_of_ble_eq_true rfl) wi_f5_21 di5_23 ?_
  exact ci_ret C hr di5_26 (fun _ h1 h2 => ⟨h1, h2⟩) (by
    obtain ⟨r, rfl, rfl⟩ := s1
    obtain ⟨r', rfl, rfl⟩ := s2
    exact ⟨fun i => [h0, r 0, r 1, r' 0, r' 1, r' 2, r' 3].getD i 0, rfl, rfl⟩)
