theorem wi_oi : Cond.instanceMethod objectInit ∈ gm_tbl := gm_in_tbl 74 (by decide +kernel) (by decide +kernel)
theorem wi_oc : Cond.code objectInit ⟨#[0xb1]⟩ 1 none ∈ gm_tbl := gm_in_tbl 75 (by decide +kernel) (by decide +kernel)
abbrev fi_0 : List Value := [.null, .null, .int 0]
abbrev fi_1 : List Value := [.null, .null, .int 0, .int 0, .int 0, .int 0, .int 0]
abbrev fi_2 : List Value := [.null, .int 0, .long 0]
abbrev fi_3 : List Value := [.null, .null, .null, .null, .int 0, .int 0, .int 0, .int 0, .int 0, .int 0]
abbrev fi_4 : List Value := [.null, .int 0, .int 0]
abbrev fi_5 : List Value := [.null, .null, .int 0, .int 0, .int 0, .int 0, .int 0]
abbrev fi_7 : List Value := [.null, .int 0]
abbrev fi_8 : List Value := [.null, .int 0, .int 0]
abbrev fi_9 : List Value := [.null, .null, .null, .int 0, .int 0, .int 0, .int 0, .int 0, .int 0]
abbrev fi_10 : List Value := [.null, .null, .null, .null, .null, .null, .null, .long 0, .int 0]
abbrev fi_11 : List Value := [.int 0, .int 0, .int 0, .int 0, .int 0, .null, .null, .int 0, .null, .int 0, .int 0, .int 0, .int 0, .int 0, .int 0, .int 0, .int 0, .int 0, .int 0, .null, .null, .null, .int 0, .null, .null, .int 0, .null, .int 0, .null, .int 0, .null, .null, .int 0, .null, .null, .null, .null]
def wd_8 (cf : gm_C) (q : Nat → Nat) : va_W := [(q 0, .inr (8, [.ref (q 1), .int 0, .int 0])), (q 1, .inl (cf.2 0, 4, .inl (fun _ => 0)))]
def sh_8 (cf : gm_C) (h0 : Nat) (w : va_W) : Prop := ∃ q : Nat → Nat, q 0 = h0 ∧ w = wd_8 cf q
theorem di8_0 : decode cX8_init 0 = .ok (.aload_n 0, 1) := by decide +kernel
theorem di8_1 : decode cX8_init 1 = .ok (.invokespecial 1, 3) := by decide +kernel
theorem wi_o8 : Cond.methodLink RX8 1 objectInit ∈ gm_tbl := gm_in_tbl 190 (by decide +kernel) (by decide +kernel)
theorem di8_4 : decode cX8_init 4 = .ok (.aload_n 0, 1) := by decide +kernel
theorem di8_5 : decode cX8_init 5 = .ok (.iconst 4, 1) := by decide +kernel
theorem di8_6 : decode cX8_init 6 = .ok (.newarray .int, 2) := by decide +kernel
theorem wi_a_int : Cond.arrayClass .int ∈ gm_tbl := gm_in_tbl 148 (by decide +kernel) (by decide +kernel)
theorem di8_8 : decode cX8_init 8 = .ok (.putfield 7, 3) := by decide +kernel
theorem wi_f8_7 : Cond.fieldLink RX8 7 RX8 (TX8 0).2.1 (TX8 0).2.2.1 ∈ gm_tbl := gm_in_tbl 191 (by decide +kernel) (by decide +kernel)
theorem di8_11 : decode cX8_init 11 = .ok (.return_, 1) := by decide +kernel
set_option maxHeartbeats 20000000 in
set_option maxRecDepth 20000 in
theorem ini_8 (l : Launch) (cf : gm_C) : gm_Ini l yX8_init cX8_init 1 1 12 1 4 cf 8 fi_8 (sh_8 cf) := by
  refine gm_ini (by decide +kernel) rfl (by decide) ?_
  intro p e s m args below meth c A h0 C hr
  have C : gm_IF p s m args meth c cf A cX8_init 1 RX8 := C
  unfold fi_8
  refine ci_aload C di8_0 rfl 0 rfl ?_
  refine ci_obj C wi_o8 wi_oi wi_oc di8_1 (by decide) (by decide) ?_
  refine ci_aload C di8_4 rfl 0 rfl ?_
  refine ci_iconst (v := 4) C di8_5 (by decide) ?_
  refine ci_newa (atype := .int) (ty := .int) (N' := 4) (j := 0) (a0 := (4, .inl (fun _ => 0))) C wi_a_int rfl rfl (fun _ => rfl) (by decide) (by decide) (Nat.le_of_ble_eq_true rfl) (Nat.le_of_ble_eq_true rfl) (Nat.le_of_ble_eq_true rfl) di8_6 (fun q1 => ?_)
  refine ci_putF (k := 0) (ty1 := .array .int) C kc_8 (by decide) rfl rfl rfl (by decide +kernel) rfl rfl (Nat.le_of_ble_eq_true rfl) wi_f8_7 di8_8 ?_
  exact ci_ret C hr di8_11 (fun _ h1 h2 => ⟨h1, h2⟩) ⟨fun i => [h0, q1].getD i 0, rfl, rfl⟩
def wd_7 (cf : gm_C) (q : Nat → Nat) : va_W := [(q 0, .inr (7, [.ref (q 1), .int 0])), (q 1, .inl (cf.2 1, 240, .inl (fun _ => 0)))]
def sh_7 (cf : gm_C) (h0 : Nat) (w : va_W) : Prop := ∃ q : Nat → Nat, q 0 = h0 ∧ w = wd_7 cf q
theorem di7_0 : decode cX7_init 0 = .ok (.aload_n 0, 1) := by decide +kernel
theorem di7_1 : decode cX7_init 1 = .ok (.invokespecial 3, 3) := by decide +kernel
theorem wi_o7 : Cond.methodLink RX7 3 objectInit ∈ gm_tbl := gm_in_tbl 87 (by decide +kernel) (by decide +kernel)
theorem di7_4 : decode cX7_init 4 = .ok (.aload_n 0, 1) := by decide +kernel
theorem di7_5 : decode cX7_init 5 = .ok (.sipush 240, 3) := by decide +kernel
theorem di7_8 : decode cX7_init 8 = .ok (.newarray .char, 2) := by decide +kernel
theorem wi_a_char : Cond.arrayClass .char ∈ gm_tbl := gm_in_tbl 97 (by decide +kernel) (by decide +kernel)
theorem di7_10 : decode cX7_init 10 = .ok (.putfield 9, 3) := by decide +kernel
theorem wi_f7_9 : Cond.fieldLink RX7 9 RX7 (TX7 0).2.1 (TX7 0).2.2.1 ∈ gm_tbl := gm_in_tbl 88 (by decide +kernel) (by decide +kernel)
theorem di7_13 : decode cX7_init 13 = .ok (.return_, 1) := by decide +kernel
set_option maxHeartbeats 20000000 in
set_option maxRecDepth 20000 in
theorem ini_7 (l : Launch) (cf : gm_C) : gm_Ini l yX7_init cX7_init 1 1 12 1 240 cf 7 fi_7 (sh_7 cf) := by
  refine gm_ini (by decide +kernel) rfl (by decide) ?_
  intro p e s m args below meth c A h0 C hr
  have C : gm_IF p s m args meth c cf A cX7_init 1 RX7 := C
  unfold fi_7
  refine ci_aload C di7_0 rfl 0 rfl ?_
  refine ci_obj C wi_o7 wi_oi wi_oc di7_1 (by decide) (by decide) ?_
  refine ci_aload C di7_4 rfl 0 rfl ?_
  refine ci_sipush (v := 240) C di7_5 (by decide) ?_
  refine ci_newa (atype := .char) (ty := .char) (N' := 240) (j := 1) (a0 := (240, .inl (fun _ => 0))) C wi_a_char rfl rfl (fun _ => rfl) (by decide) (by decide) (Nat.le_of_ble_eq_true rfl) (Nat.le_of_ble_eq_true rfl) (Nat.le_of_ble_eq_true rfl) di7_8 (fun q1 => ?_)
  refine ci_putF (k := 0) (ty1 := .array .char) C kc_7 (by decide) rfl rfl rfl (by decide +kernel) rfl rfl (Nat.le_of_ble_eq_true rfl) wi_f7_9 di7_10 ?_
  exact ci_ret C hr di7_13 (fun _ h1 h2 => ⟨h1, h2⟩) ⟨fun i => [h0, q1].getD i 0, rfl, rfl⟩
def wd_9 (cf : gm_C) (q : Nat → Nat) : va_W := [(q 0, .inr (9, [.ref (q 1), .ref (q 2), .ref (q 3), .int 0, .int 0, .int 0, .int 0, .int 0, .int 0])), (q 1, .inl (cf.2 0, 4, .inl (fun _ => 0))), (q 2, .inl (cf.2 0, 8, .inl (fun _ => 0))), (q 3, .inl (cf.2 0, 25, .inl (fun _ => 0)))]
def sh_9 (cf : gm_C) (h0 : Nat) (w : va_W) : Prop := ∃ q : Nat → Nat, q 0 = h0 ∧ w = wd_9 cf q
theorem di9_0 : decode cX9_init 0 = .ok (.aload_n 0, 1) := by decide +kernel
theorem di9_1 : decode cX9_init 1 = .ok (.invokespecial 3, 3) := by decide +kernel
theorem wi_o9 : Cond.methodLink RX9 3 objectInit ∈ gm_tbl := gm_in_tbl 103 (by decide +kernel) (by decide +kernel)
theorem di9_4 : decode cX9_init 4 = .ok (.aload_n 0, 1) := by decide +kernel
theorem di9_5 : decode cX9_init 5 = .ok (.iconst 4, 1) := by decide +kernel
theorem di9_6 : decode cX9_init 6 = .ok (.newarray .int, 2) := by decide +kernel
theorem di9_8 : decode cX9_init 8 = .ok (.putfield 9, 3) := by decide +kernel
theorem wi_f9_9 : Cond.fieldLink RX9 9 RX9 (TX9 0).2.1 (TX9 0).2.2.1 ∈ gm_tbl := gm_in_tbl 104 (by decide +kernel) (by decide +kernel)
theorem di9_11 : decode cX9_init 11 = .ok (.aload_n 0, 1) := by decide +kernel
theorem di9_12 : decode cX9_init 12 = .ok (.bipush 8, 2) := by decide +kernel
theorem di9_14 : decode cX9_init 14 = .ok (.newarray .int, 2) := by decide +kernel
theorem di9_16 : decode cX9_init 16 = .ok (.putfield 15, 3) := by decide +kernel
theorem wi_f9_15 : Cond.fieldLink RX9 15 RX9 (TX9 1).2.1 (TX9 1).2.2.1 ∈ gm_tbl := gm_in_tbl 107 (by decide +kernel) (by decide +kernel)
theorem di9_19 : decode cX9_init 19 = .ok (.aload_n 0, 1) := by decide +kernel
theorem di9_20 : decode cX9_init 20 = .ok (.bipush 25, 2) := by decide +kernel
theorem di9_22 : decode cX9_init 22 = .ok (.newarray .int, 2) := by decide +kernel
theorem di9_24 : decode cX9_init 24 = .ok (.putfield 18, 3) := by decide +kernel
theorem wi_f9_18 : Cond.fieldLink RX9 18 RX9 (TX9 2).2.1 (TX9 2).2.2.1 ∈ gm_tbl := gm_in_tbl 108 (by decide +kernel) (by decide +kernel)
theorem di9_27 : decode cX9_init 27 = .ok (.return_, 1) := by decide +kernel
set_option maxHeartbeats 20000000 in
set_option maxRecDepth 20000 in
theorem ini_9 (l : Launch) (cf : gm_C) : gm_Ini l yX9_init cX9_init 1 1 12 3 37 cf 9 fi_9 (sh_9 cf) := by
  refine gm_ini (by decide +kernel) rfl (by decide) ?_
  intro p e s m args below meth c A h0 C hr
  have C : gm_IF p s m args meth c cf A cX9_init 1 RX9 := C
  unfold fi_9
  refine ci_aload C di9_0 rfl 0 rfl ?_
  refine ci_obj C wi_o9 wi_oi wi_oc di9_1 (by decide) (by decide) ?_
  refine ci_aload C di9_4 rfl 0 rfl ?_
  refine ci_iconst (v := 4) C di9_5 (by decide) ?_
  refine ci_newa (atype := .int) (ty := .int) (N' := 4) (j := 0) (a0 := (4, .inl (fun _ => 0))) C wi_a_int rfl rfl (fun _ => rfl) (by decide) (by decide) (Nat.le_of_ble_eq_true rfl) (Nat.le_of_ble_eq_true rfl) (Nat.le_of_ble_eq_true rfl) di9_6 (fun q1 => ?_)
  refine ci_putF (k := 0) (ty1 := .array .int) C kc_9 (by decide) rfl rfl rfl (by decide +kernel) rfl rfl (Nat.le_of_ble_eq_true rfl) wi_f9_9 di9_8 ?_
  refine ci_aload C di9_11 rfl 0 rfl ?_
  refine ci_bipush (v := 8) C di9_12 (by decide) ?_
  refine ci_newa (atype := .int) (ty := .int) (N' := 8) (j := 0) (a0 := (8, .inl (fun _ => 0))) C wi_a_int rfl rfl (fun _ => rfl) (by decide) (by decide) (Nat.le_of_ble_eq_true rfl) (Nat.le_of_ble_eq_true rfl) (Nat.le_of_ble_eq_true rfl) di9_14 (fun q2 => ?_)
  refine ci_putF (k := 1) (ty1 := .array .int) C kc_9 (by decide) rfl rfl rfl (by decide +kernel) rfl rfl (Nat.le_of_ble_eq_true rfl) wi_f9_15 di9_16 ?_
  refine ci_aload C di9_19 rfl 0 rfl ?_
  refine ci_bipush (v := 25) C di9_20 (by decide) ?_
  refine ci_newa (atype := .int) (ty := .int) (N' := 25) (j := 0) (a0 := (25, .inl (fun _ => 0))) C wi_a_int rfl rfl (fun _ => rfl) (by decide) (by decide) (Nat.le_of_ble_eq_true rfl) (Nat.le_of_ble_eq_true rfl) (Nat.le_of_ble_eq_true rfl) di9_22 (fun q3 => ?_)
  refine ci_putF (k := 2) (ty1 := .array .int) C kc_9 (by decide) rfl rfl rfl (by decide +kernel) rfl rfl (Nat.le_of_ble_eq_true rfl) wi_f9_18 di9_24 ?_
  exact ci_ret C hr di9_27 (fun _ h1 h2 => ⟨h1, h2⟩) ⟨fun i => [h0, q1, q2, q3].getD i 0, rfl, rfl⟩
def wd_0 (cf : gm_C) (q : Nat → Nat) : va_W := [(q 0, .inr (0, [.ref (q 1), .ref (q 2), .int 0])), (q 1, .inl (cf.2 0, 15, .inl (fun _ => 0))), (q 2, .inl (cf.2 2, 15, .inl (fun _ => 0)))]
def sh_0 (cf : gm_C) (h0 : Nat) (w : va_W) : Prop := ∃ q : Nat → Nat, q 0 = h0 ∧ w = wd_0 cf q
theorem di0_0 : decode cX0_init 0 = .ok (.aload_n 0, 1) := by decide +kernel
theorem di0_1 : decode cX0_init 1 = .ok (.invokespecial 3, 3) := by decide +kernel
theorem wi_o0 : Cond.methodLink RX0 3 objectInit ∈ gm_tbl := gm_in_tbl 293 (by decide +kernel) (by decide +kernel)
theorem di0_4 : decode cX0_init 4 = .ok (.aload_n 0, 1) := by decide +kernel
theorem di0_5 : decode cX0_init 5 = .ok (.bipush 15, 2) := by decide +kernel
theorem di0_7 : decode cX0_init 7 = .ok (.newarray .int, 2) := by decide +kernel
theorem di0_9 : decode cX0_init 9 = .ok (.putfield 9, 3) := by decide +kernel
theorem wi_f0_9 : Cond.fieldLink RX0 9 RX0 (TX0 0).2.1 (TX0 0).2.2.1 ∈ gm_tbl := gm_in_tbl 294 (by decide +kernel) (by decide +kernel)
theorem di0_12 : decode cX0_init 12 = .ok (.aload_n 0, 1) := by decide +kernel
theorem di0_13 : decode cX0_init 13 = .ok (.bipush 15, 2) := by decide +kernel
theorem di0_15 : decode cX0_init 15 = .ok (.newarray .boolean, 2) := by decide +kernel
theorem wi_a_boolean : Cond.arrayClass .boolean ∈ gm_tbl := gm_in_tbl 307 (by decide +kernel) (by decide +kernel)
theorem di0_17 : decode cX0_init 17 = .ok (.putfield 15, 3) := by decide +kernel
theorem wi_f0_15 : Cond.fieldLink RX0 15 RX0 (TX0 1).2.1 (TX0 1).2.2.1 ∈ gm_tbl := gm_in_tbl 296 (by decide +kernel) (by decide +kernel)
theorem di0_20 : decode cX0_init 20 = .ok (.return_, 1) := by decide +kernel
set_option maxHeartbeats 20000000 in
set_option maxRecDepth 20000 in
theorem ini_0 (l : Launch) (cf : gm_C) : gm_Ini l yX0_init cX0_init 1 1 12 2 30 cf 0 fi_0 (sh_0 cf) := by
  refine gm_ini (by decide +kernel) rfl (by decide) ?_
  intro p e s m args below meth c A h0 C hr
  have C : gm_IF p s m args meth c cf A cX0_init 1 RX0 := C
  unfold fi_0
  refine ci_aload C di0_0 rfl 0 rfl ?_
  refine ci_obj C wi_o0 wi_oi wi_oc di0_1 (by decide) (by decide) ?_
  refine ci_aload C di0_4 rfl 0 rfl ?_
  refine ci_bipush (v := 15) C di0_5 (by decide) ?_
  refine ci_newa (atype := .int) (ty := .int) (N' := 15) (j := 0) (a0 := (15, .inl (fun _ => 0))) C wi_a_int rfl rfl (fun _ => rfl) (by decide) (by decide) (Nat.le_of_ble_eq_true rfl) (Nat.le_of_ble_eq_true rfl) (Nat.le_of_ble_eq_true rfl) di0_7 (fun q1 => ?_)
  refine ci_putF (k := 0) (ty1 := .array .int) C kc_0 (by decide) rfl rfl rfl (by decide +kernel) rfl rfl (Nat.le_of_ble_eq_true rfl) wi_f0_9 di0_9 ?_
  refine ci_aload C di0_12 rfl 0 rfl ?_
  refine ci_bipush (v := 15) C di0_13 (by decide) ?_
  refine ci_newa (atype := .boolean) (ty := .boolean) (N' := 15) (j := 2) (a0 := (15, .inl (fun _ => 0))) C wi_a_boolean rfl rfl (fun _ => rfl) (by decide) (by decide) (Nat.le_of_ble_eq_true rfl) (Nat.le_of_ble_eq_true rfl) (Nat.le_of_ble_eq_true rfl) di0_15 (fun q2 => ?_)
  refine ci_putF (k := 1) (ty1 := .array .boolean) C kc_0 (by decide) rfl rfl rfl (by decide +kernel) rfl rfl (Nat.le_of_ble_eq_true rfl) wi_f0_15 di0_17 ?_
  exact ci_ret C hr di0_20 (fun _ h1 h2 => ⟨h1, h2⟩) ⟨fun i => [h0, q1, q2].getD i 0, rfl, rfl⟩
def wd_11 (cf : gm_C) (q : Nat → Nat) : va_W := [(q 0, .inr (11, [.int 0, .int 0, .int 0, .int 0, .int 0, .ref (q 1), .ref (q 2), .int 0, .ref (q 3), .int 0, .int (-1), .int 0, .int 0, .int 0, .int 0, .int 0, .int 0, .int 0, .int 0, .ref (q 4), .ref (q 5), .ref (q 6), .int 0, .ref (q 7), .ref (q 8), .int 0, .ref (q 9), .int 0, .ref (q 10), .int 0, .ref (q 11), .ref (q 12), .int 0, .ref (q 13), .ref (q 14), .ref (q 15), .ref (q 16)])), (q 1, .inl (cf.2 0, 5, .inl (fun _ => 0))), (q 2, .inl (cf.2 0, 42, .inl (fun _ => 0))), (q 3, .inl (cf.2 0, 240, .inl (fun _ => 0))), (q 4, .inl (cf.2 0, 4, .inl (fun _ => 0))), (q 5, .inl (cf.2 0, 4, .inl (fun _ => 0))), (q 6, .inl (cf.2 0, 4, .inl (fun _ => 0))), (q 7, .inl (cf.2 0, 4, .inl (fun _ => 0))), (q 8, .inl (cf.2 0, 4, .inl (fun _ => 0))), (q 9, .inl (cf.2 0, 5, .inl (fun _ => 0))), (q 10, .inl (cf.2 0, 672, .inl (fun _ => 0))), (q 11, .inl (cf.2 0, 8, .inl (fun _ => 0))), (q 12, .inl (cf.2 2, 8, .inl (fun _ => 0))), (q 13, .inl (cf.2 0, 15, .inl (fun _ => 0))), (q 14, .inl (cf.2 2, 15, .inl (fun _ => 0))), (q 15, .inl (cf.2 0, 86, .inl (fun _ => 0))), (q 16, .inl (cf.2 2, 2, .inl (fun _ => 0)))]
def sh_11 (cf : gm_C) (h0 : Nat) (w : va_W) : Prop := ∃ q : Nat → Nat, q 0 = h0 ∧ w = wd_11 cf q
theorem di11_0 : decode cX11_init 0 = .ok (.aload_n 0, 1) := by decide +kernel
theorem di11_1 : decode cX11_init 1 = .ok (.invokespecial 1, 3) := by decide +kernel
theorem wi_o11 : Cond.methodLink RX11 1 objectInit ∈ gm_tbl := gm_in_tbl 839 (by decide +kernel) (by decide +kernel)
theorem di11_4 : decode cX11_init 4 = .ok (.aload_n 0, 1) := by decide +kernel
theorem di11_5 : decode cX11_init 5 = .ok (.iconst 5, 1) := by decide +kernel
theorem di11_6 : decode cX11_init 6 = .ok (.newarray .int, 2) := by decide +kernel
theorem di11_8 : decode cX11_init 8 = .ok (.putfield 7, 3) := by decide +kernel
theorem wi_f11_7 : Cond.fieldLink RX11 7 RX11 (TX11 5).2.1 (TX11 5).2.2.1 ∈ gm_tbl := gm_in_tbl 845 (by decide +kernel) (by decide +kernel)
theorem di11_11 : decode cX11_init 11 = .ok (.aload_n 0, 1) := by decide +kernel
theorem di11_12 : decode cX11_init 12 = .ok (.bipush 42, 2) := by decide +kernel
theorem di11_14 : decode cX11_init 14 = .ok (.newarray .int, 2) := by decide +kernel
theorem di11_16 : decode cX11_init 16 = .ok (.putfield 13, 3) := by decide +kernel
theorem wi_f11_13 : Cond.fieldLink RX11 13 RX11 (TX11 6).2.1 (TX11 6).2.2.1 ∈ gm_tbl := gm_in_tbl 846 (by decide +kernel) (by decide +kernel)
theorem di11_19 : decode cX11_init 19 = .ok (.aload_n 0, 1) := by decide +kernel
theorem di11_20 : decode cX11_init 20 = .ok (.sipush 240, 3) := by decide +kernel
theorem di11_23 : decode cX11_init 23 = .ok (.newarray .int, 2) := by decide +kernel
theorem di11_25 : decode cX11_init 25 = .ok (.putfield 16, 3) := by decide +kernel
theorem wi_f11_16 : Cond.fieldLink RX11 16 RX11 (TX11 8).2.1 (TX11 8).2.2.1 ∈ gm_tbl := gm_in_tbl 848 (by decide +kernel) (by decide +kernel)
theorem di11_28 : decode cX11_init 28 = .ok (.aload_n 0, 1) := by decide +kernel
theorem di11_29 : decode cX11_init 29 = .ok (.iconst (-1), 1) := by decide +kernel
theorem di11_30 : decode cX11_init 30 = .ok (.putfield 19, 3) := by decide +kernel
theorem wi_f11_19 : Cond.fieldLink RX11 19 RX11 (TX11 10).2.1 (TX11 10).2.2.1 ∈ gm_tbl := gm_in_tbl 850 (by decide +kernel) (by decide +kernel)
theorem di11_33 : decode cX11_init 33 = .ok (.aload_n 0, 1) := by decide +kernel
theorem di11_34 : decode cX11_init 34 = .ok (.iconst 4, 1) := by decide +kernel
theorem di11_35 : decode cX11_init 35 = .ok (.newarray .int, 2) := by decide +kernel
theorem di11_37 : decode cX11_init 37 = .ok (.putfield 23, 3) := by decide +kernel
theorem wi_f11_23 : Cond.fieldLink RX11 23 RX11 (TX11 19).2.1 (TX11 19).2.2.1 ∈ gm_tbl := gm_in_tbl 859 (by decide +kernel) (by decide +kernel)
theorem di11_40 : decode cX11_init 40 = .ok (.aload_n 0, 1) := by decide +kernel
theorem di11_41 : decode cX11_init 41 = .ok (.iconst 4, 1) := by decide +kernel
theorem di11_42 : decode cX11_init 42 = .ok (.newarray .int, 2) := by decide +kernel
theorem di11_44 : decode cX11_init 44 = .ok (.putfield 26, 3) := by decide +kernel
theorem wi_f11_26 : Cond.fieldLink RX11 26 RX11 (TX11 20).2.1 (TX11 20).2.2.1 ∈ gm_tbl := gm_in_tbl 860 (by decide +kernel) (by decide +kernel)
theorem di11_47 : decode cX11_init 47 = .ok (.aload_n 0, 1) := by decide +kernel
theorem di11_48 : decode cX11_init 48 = .ok (.iconst 4, 1) := by decide +kernel
theorem di11_49 : decode cX11_init 49 = .ok (.newarray .int, 2) := by decide +kernel
theorem di11_51 : decode cX11_init 51 = .ok (.putfield 29, 3) := by decide +kernel
theorem wi_f11_29 : Cond.fieldLink RX11 29 RX11 (TX11 21).2.1 (TX11 21).2.2.1 ∈ gm_tbl := gm_in_tbl 861 (by decide +kernel) (by decide +kernel)
theorem di11_54 : decode cX11_init 54 = .ok (.aload_n 0, 1) := by decide +kernel
theorem di11_55 : decode cX11_init 55 = .ok (.iconst 4, 1) := by decide +kernel
theorem di11_56 : decode cX11_init 56 = .ok (.newarray .int, 2) := by decide +kernel
theorem di11_58 : decode cX11_init 58 = .ok (.putfield 32, 3) := by decide +kernel
theorem wi_f11_32 : Cond.fieldLink RX11 32 RX11 (TX11 23).2.1 (TX11 23).2.2.1 ∈ gm_tbl := gm_in_tbl 863 (by decide +kernel) (by decide +kernel)
theorem di11_61 : decode cX11_init 61 = .ok (.aload_n 0, 1) := by decide +kernel
theorem di11_62 : decode cX11_init 62 = .ok (.iconst 4, 1) := by decide +kernel
theorem di11_63 : decode cX11_init 63 = .ok (.newarray .int, 2) := by decide +kernel
theorem di11_65 : decode cX11_init 65 = .ok (.putfield 35, 3) := by decide +kernel
theorem wi_f11_35 : Cond.fieldLink RX11 35 RX11 (TX11 24).2.1 (TX11 24).2.2.1 ∈ gm_tbl := gm_in_tbl 864 (by decide +kernel) (by decide +kernel)
theorem di11_68 : decode cX11_init 68 = .ok (.aload_n 0, 1) := by decide +kernel
theorem di11_69 : decode cX11_init 69 = .ok (.iconst 5, 1) := by decide +kernel
theorem di11_70 : decode cX11_init 70 = .ok (.newarray .int, 2) := by decide +kernel
theorem di11_72 : decode cX11_init 72 = .ok (.putfield 38, 3) := by decide +kernel
theorem wi_f11_38 : Cond.fieldLink RX11 38 RX11 (TX11 26).2.1 (TX11 26).2.2.1 ∈ gm_tbl := gm_in_tbl 866 (by decide +kernel) (by decide +kernel)
theorem di11_75 : decode cX11_init 75 = .ok (.aload_n 0, 1) := by decide +kernel
theorem di11_76 : decode cX11_init 76 = .ok (.sipush 672, 3) := by decide +kernel
theorem di11_79 : decode cX11_init 79 = .ok (.newarray .int, 2) := by decide +kernel
theorem di11_81 : decode cX11_init 81 = .ok (.putfield 41, 3) := by decide +kernel
theorem wi_f11_41 : Cond.fieldLink RX11 41 RX11 (TX11 28).2.1 (TX11 28).2.2.1 ∈ gm_tbl := gm_in_tbl 868 (by decide +kernel) (by decide +kernel)
theorem di11_84 : decode cX11_init 84 = .ok (.aload_n 0, 1) := by decide +kernel
theorem di11_85 : decode cX11_init 85 = .ok (.bipush 8, 2) := by decide +kernel
theorem di11_87 : decode cX11_init 87 = .ok (.newarray .int, 2) := by decide +kernel
theorem di11_89 : decode cX11_init 89 = .ok (.putfield 44, 3) := by decide +kernel
theorem wi_f11_44 : Cond.fieldLink RX11 44 RX11 (TX11 30).2.1 (TX11 30).2.2.1 ∈ gm_tbl := gm_in_tbl 870 (by decide +kernel) (by decide +kernel)
theorem di11_92 : decode cX11_init 92 = .ok (.aload_n 0, 1) := by decide +kernel
theorem di11_93 : decode cX11_init 93 = .ok (.bipush 8, 2) := by decide +kernel
theorem di11_95 : decode cX11_init 95 = .ok (.newarray .boolean, 2) := by decide +kernel
theorem di11_97 : decode cX11_init 97 = .ok (.putfield 47, 3) := by decide +kernel
theorem wi_f11_47 : Cond.fieldLink RX11 47 RX11 (TX11 31).2.1 (TX11 31).2.2.1 ∈ gm_tbl := gm_in_tbl 871 (by decide +kernel) (by decide +kernel)
theorem di11_100 : decode cX11_init 100 = .ok (.aload_n 0, 1) := by decide +kernel
theorem di11_101 : decode cX11_init 101 = .ok (.bipush 15, 2) := by decide +kernel
theorem di11_103 : decode cX11_init 103 = .ok (.newarray .int, 2) := by decide +kernel
theorem di11_105 : decode cX11_init 105 = .ok (.putfield 51, 3) := by decide +kernel
theorem wi_f11_51 : Cond.fieldLink RX11 51 RX11 (TX11 33).2.1 (TX11 33).2.2.1 ∈ gm_tbl := gm_in_tbl 873 (by decide +kernel) (by decide +kernel)
theorem di11_108 : decode cX11_init 108 = .ok (.aload_n 0, 1) := by decide +kernel
theorem di11_109 : decode cX11_init 109 = .ok (.bipush 15, 2) := by decide +kernel
theorem di11_111 : decode cX11_init 111 = .ok (.newarray .boolean, 2) := by decide +kernel
theorem di11_113 : decode cX11_init 113 = .ok (.putfield 54, 3) := by decide +kernel
theorem wi_f11_54 : Cond.fieldLink RX11 54 RX11 (TX11 34).2.1 (TX11 34).2.2.1 ∈ gm_tbl := gm_in_tbl 874 (by decide +kernel) (by decide +kernel)
theorem di11_116 : decode cX11_init 116 = .ok (.aload_n 0, 1) := by decide +kernel
theorem di11_117 : decode cX11_init 117 = .ok (.bipush 86, 2) := by decide +kernel
theorem di11_119 : decode cX11_init 119 = .ok (.newarray .int, 2) := by decide +kernel
theorem di11_121 : decode cX11_init 121 = .ok (.putfield 57, 3) := by decide +kernel
theorem wi_f11_57 : Cond.fieldLink RX11 57 RX11 (TX11 35).2.1 (TX11 35).2.2.1 ∈ gm_tbl := gm_in_tbl 875 (by decide +kernel) (by decide +kernel)
theorem di11_124 : decode cX11_init 124 = .ok (.aload_n 0, 1) := by decide +kernel
theorem di11_125 : decode cX11_init 125 = .ok (.iconst 2, 1) := by decide +kernel
theorem di11_126 : decode cX11_init 126 = .ok (.newarray .boolean, 2) := by decide +kernel
theorem di11_128 : decode cX11_init 128 = .ok (.putfield 60, 3) := by decide +kernel
theorem wi_f11_60 : Cond.fieldLink RX11 60 RX11 (TX11 36).2.1 (TX11 36).2.2.1 ∈ gm_tbl := gm_in_tbl 876 (by decide +kernel) (by decide +kernel)
theorem di11_131 : decode cX11_init 131 = .ok (.aload_n 0, 1) := by decide +kernel
theorem di11_132 : decode cX11_init 132 = .ok (.iconst 0, 1) := by decide +kernel
theorem di11_133 : decode cX11_init 133 = .ok (.putfield 63, 3) := by decide +kernel
theorem wi_f11_63 : Cond.fieldLink RX11 63 RX11 (TX11 0).2.1 (TX11 0).2.2.1 ∈ gm_tbl := gm_in_tbl 840 (by decide +kernel) (by decide +kernel)
theorem di11_136 : decode cX11_init 136 = .ok (.return_, 1) := by decide +kernel
set_option maxHeartbeats 20000000 in
set_option maxRecDepth 20000 in
theorem ini_11 (l : Launch) (cf : gm_C) : gm_Ini l yX11_init cX11_init 1 1 12 16 1118 cf 11 fi_11 (sh_11 cf) := by
  refine gm_ini (by decide +kernel) rfl (by decide) ?_
  intro p e s m args below meth c A h0 C hr
  have C : gm_IF p s m args meth c cf A cX11_init 1 RX11 := C
  unfold fi_11
  refine ci_aload C di11_0 rfl 0 rfl ?_
  refine ci_obj C wi_o11 wi_oi wi_oc di11_1 (by decide) (by decide) ?_
  refine ci_aload C di11_4 rfl 0 rfl ?_
  refine ci_iconst (v := 5) C di11_5 (by decide) ?_
  refine ci_newa (atype := .int) (ty := .int) (N' := 5) (j := 0) (a0 := (5, .inl (fun _ => 0))) C wi_a_int rfl rfl (fun _ => rfl) (by decide) (by decide) (Nat.le_of_ble_eq_true rfl) (Nat.le_of_ble_eq_true rfl) (Nat.le_of_ble_eq_true rfl) di11_6 (fun q1 => ?_)
  refine ci_putF (k := 5) (ty1 := .array .int) C kc_11 (by decide) rfl rfl rfl (by decide +kernel) rfl rfl (Nat.le_of_ble_eq_true rfl) wi_f11_7 di11_8 ?_
  refine ci_aload C di11_11 rfl 0 rfl ?_
  refine ci_bipush (v := 42) C di11_12 (by decide) ?_
  refine ci_newa (atype := .int) (ty := .int) (N' := 42) (j := 0) (a0 := (42, .inl (fun _ => 0))) C wi_a_int rfl rfl (fun _ => rfl) (by decide) (by decide) (Nat.le_of_ble_eq_true rfl) (Nat.le_of_ble_eq_true rfl) (Nat.le_of_ble_eq_true rfl) di11_14 (fun q2 => ?_)
  refine ci_putF (k := 6) (ty1 := .array .int) C kc_11 (by decide) rfl rfl rfl (by decide +kernel) rfl rfl (Nat.le_of_ble_eq_true rfl) wi_f11_13 di11_16 ?_
  refine ci_aload C di11_19 rfl 0 rfl ?_
  refine ci_sipush (v := 240) C di11_20 (by decide) ?_
  refine ci_newa (atype := .int) (ty := .int) (N' := 240) (j := 0) (a0 := (240, .inl (fun _ => 0))) C wi_a_int rfl rfl (fun _ => rfl) (by decide) (by decide) (Nat.le_of_ble_eq_true rfl) (Nat.le_of_ble_eq_true rfl) (Nat.le_of_ble_eq_true rfl) di11_23 (fun q3 => ?_)
  refine ci_putF (k := 8) (ty1 := .array .int) C kc_11 (by decide) rfl rfl rfl (by decide +kernel) rfl rfl (Nat.le_of_ble_eq_true rfl) wi_f11_16 di11_25 ?_
  refine ci_aload C di11_28 rfl 0 rfl ?_
  refine ci_iconst (v := -1) C di11_29 (by decide) ?_
  refine ci_put (k := 10) (ty1 := .int) C kc_11 (by decide) rfl rfl (by decide +kernel) rfl rfl (Nat.le_of_ble_eq_true rfl) wi_f11_19 di11_30 ?_
  refine ci_aload C di11_33 rfl 0 rfl ?_
  refine ci_iconst (v := 4) C di11_34 (by decide) ?_
  refine ci_newa (atype := .int) (ty := .int) (N' := 4) (j := 0) (a0 := (4, .inl (fun _ => 0))) C wi_a_int rfl rfl (fun _ => rfl) (by decide) (by decide) (Nat.le_of_ble_eq_true rfl) (Nat.le_of_ble_eq_true rfl) (Nat.le_of_ble_eq_true rfl) di11_35 (fun q4 => ?_)
  refine ci_putF (k := 19) (ty1 := .array .int) C kc_11 (by decide) rfl rfl rfl (by decide +kernel) rfl rfl (Nat.le_of_ble_eq_true rfl) wi_f11_23 di11_37 ?_
  refine ci_aload C di11_40 rfl 0 rfl ?_
  refine ci_iconst (v := 4) C di11_41 (by decide) ?_
  refine ci_newa (atype := .int) (ty := .int) (N' := 4) (j := 0) (a0 := (4, .inl (fun _ => 0))) C wi_a_int rfl rfl (fun _ => rfl) (by decide) (by decide) (Nat.le_of_ble_eq_true rfl) (Nat.le_of_ble_eq_true rfl) (Nat.le_of_ble_eq_true rfl) di11_42 (fun q5 => ?_)
  refine ci_putF (k := 20) (ty1 := .array .int) C kc_11 (by decide) rfl rfl rfl (by decide +kernel) rfl rfl (Nat.le_of_ble_eq_true rfl) wi_f11_26 di11_44 ?_
  refine ci_aload C di11_47 rfl 0 rfl ?_
  refine ci_iconst (v := 4) C di11_48 (by decide) ?_
  refine ci_newa (atype := .int) (ty := .int) (N' := 4) (j := 0) (a0 := (4, .inl (fun _ => 0))) C wi_a_int rfl rfl (fun _ => rfl) (by decide) (by decide) (Nat.le_of_ble_eq_true rfl) (Nat.le_of_ble_eq_true rfl) (Nat.le_of_ble_eq_true rfl) di11_49 (fun q6 => ?_)
  refine ci_putF (k := 21) (ty1 := .array .int) C kc_11 (by decide) rfl rfl rfl (by decide +kernel) rfl rfl (Nat.le_of_ble_eq_true rfl) wi_f11_29 di11_51 ?_
  refine ci_aload C di11_54 rfl 0 rfl ?_
  refine ci_iconst (v := 4) C di11_55 (by decide) ?_
  refine ci_newa (atype := .int) (ty := .int) (N' := 4) (j := 0) (a0 := (4, .inl (fun _ => 0))) C wi_a_int rfl rfl (fun _ => rfl) (by decide) (by decide) (Nat.le_of_ble_eq_true rfl) (Nat.le_of_ble_eq_true rfl) (Nat.le_of_ble_eq_true rfl) di11_56 (fun q7 => ?_)
  refine ci_putF (k := 23) (ty1 := .array .int) C kc_11 (by decide) rfl rfl rfl (by decide +kernel) rfl rfl (Nat.le_of_ble_eq_true rfl) wi_f11_32 di11_58 ?_
  refine ci_aload C di11_61 rfl 0 rfl ?_
  refine ci_iconst (v := 4) C di11_62 (by decide) ?_
  refine ci_newa (atype := .int) (ty := .int) (N' := 4) (j := 0) (a0 := (4, .inl (fun _ => 0))) C wi_a_int rfl rfl (fun _ => rfl) (by decide) (by decide) (Nat.le_of_ble_eq_true rfl) (Nat.le_of_ble_eq_true rfl) (Nat.le_of_ble_eq_true rfl) di11_63 (fun q8 => ?_)
  refine ci_putF (k := 24) (ty1 := .array .int) C kc_11 (by decide) rfl rfl rfl (by decide +kernel) rfl rfl (Nat.le_of_ble_eq_true rfl) wi_f11_35 di11_65 ?_
  refine ci_aload C di11_68 rfl 0 rfl ?_
  refine ci_iconst (v := 5) C di11_69 (by decide) ?_
  refine ci_newa (atype := .int) (ty := .int) (N' := 5) (j := 0) (a0 := (5, .inl (fun _ => 0))) C wi_a_int rfl rfl (fun _ => rfl) (by decide) (by decide) (Nat.le_of_ble_eq_true rfl) (Nat.le_of_ble_eq_true rfl) (Nat.le_of_ble_eq_true rfl) di11_70 (fun q9 => ?_)
  refine ci_putF (k := 26) (ty1 := .array .int) C kc_11 (by decide) rfl rfl rfl (by decide +kernel) rfl rfl (Nat.le_of_ble_eq_true rfl) wi_f11_38 di11_72 ?_
  refine ci_aload C di11_75 rfl 0 rfl ?_
  refine ci_sipush (v := 672) C di11_76 (by decide) ?_
  refine ci_newa (atype := .int) (ty := .int) (N' := 672) (j := 0) (a0 := (672, .inl (fun _ => 0))) C wi_a_int rfl rfl (fun _ => rfl) (by decide) (by decide) (Nat.le_of_ble_eq_true rfl) (Nat.le_of_ble_eq_true rfl) (Nat.le_of_ble_eq_true rfl) di11_79 (fun q10 => ?_)
  refine ci_putF (k := 28) (ty1 := .array .int) C kc_11 (by decide) rfl rfl rfl (by decide +kernel) rfl rfl (Nat.le_of_ble_eq_true rfl) wi_f11_41 di11_81 ?_
  refine ci_aload C di11_84 rfl 0 rfl ?_
  refine ci_bipush (v := 8) C di11_85 (by decide) ?_
  refine ci_newa (atype := .int) (ty := .int) (N' := 8) (j := 0) (a0 := (8, .inl (fun _ => 0))) C wi_a_int rfl rfl (fun _ => rfl) (by decide) (by decide) (Nat.le_of_ble_eq_true rfl) (Nat.le_of_ble_eq_true rfl) (Nat.le_of_ble_eq_true rfl) di11_87 (fun q11 => ?_)
  refine ci_putF (k := 30) (ty1 := .array .int) C kc_11 (by decide) rfl rfl rfl (by decide +kernel) rfl rfl (Nat.le_of_ble_eq_true rfl) wi_f11_44 di11_89 ?_
  refine ci_aload C di11_92 rfl 0 rfl ?_
  refine ci_bipush (v := 8) C di11_93 (by decide) ?_
  refine ci_newa (atype := .boolean) (ty := .boolean) (N' := 8) (j := 2) (a0 := (8, .inl (fun _ => 0))) C wi_a_boolean rfl rfl (fun _ => rfl) (by decide) (by decide) (Nat.le_of_ble_eq_true rfl) (Nat.le_of_ble_eq_true rfl) (Nat.le_of_ble_eq_true rfl) di11_95 (fun q12 => ?_)
  refine ci_putF (k := 31) (ty1 := .array .boolean) C kc_11 (by decide) rfl rfl rfl (by decide +kernel) rfl rfl (Nat.le_of_ble_eq_true rfl) wi_f11_47 di11_97 ?_
  refine ci_aload C di11_100 rfl 0 rfl ?_
  refine ci_bipush (v := 15) C di11_101 (by decide) ?_
  refine ci_newa (atype := .int) (ty := .int) (N' := 15) (j := 0) (a0 := (15, .inl (fun _ => 0))) C wi_a_int rfl rfl (fun _ => rfl) (by decide) (by decide) (Nat.le_of_ble_eq_true rfl) (Nat.le_of_ble_eq_true rfl) (Nat.le_of_ble_eq_true rfl) di11_103 (fun q13 => ?_)
  refine ci_putF (k := 33) (ty1 := .array .int) C kc_11 (by decide) rfl rfl rfl (by decide +kernel) rfl rfl (Nat.le_of_ble_eq_true rfl) wi_f11_51 di11_105 ?_
  refine ci_aload C di11_108 rfl 0 rfl ?_
  refine ci_bipush (v := 15) C di11_109 (by decide) ?_
  refine ci_newa (atype := .boolean) (ty := .boolean) (N' := 15) (j := 2) (a0 := (15, .inl (fun _ => 0))) C wi_a_boolean rfl rfl (fun _ => rfl) (by decide) (by decide) (Nat.le_of_ble_eq_true rfl) (Nat.le_of_ble_eq_true rfl) (Nat.le_of_ble_eq_true rfl) di11_111 (fun q14 => ?_)
  refine ci_putF (k := 34) (ty1 := .array .boolean) C kc_11 (by decide) rfl rfl rfl (by decide +kernel) rfl rfl (Nat.le_of_ble_eq_true rfl) wi_f11_54 di11_113 ?_
  refine ci_aload C di11_116 rfl 0 rfl ?_
  refine ci_bipush (v := 86) C di11_117 (by decide) ?_
  refine ci_newa (atype := .int) (ty := .int) (N' := 86) (j := 0) (a0 := (86, .inl (fun _ => 0))) C wi_a_int rfl rfl (fun _ => rfl) (by decide) (by decide) (Nat.le_of_ble_eq_true rfl) (Nat.le_of_ble_eq_true rfl) (Nat.le_of_ble_eq_true rfl) di11_119 (fun q15 => ?_)
  refine ci_putF (k := 35) (ty1 := .array .int) C kc_11 (by decide) rfl rfl rfl (by decide +kernel) rfl rfl (Nat.le_of_ble_eq_true rfl) wi_f11_57 di11_121 ?_
  refine ci_aload C di11_124 rfl 0 rfl ?_
  refine ci_iconst (v := 2) C di11_125 (by decide) ?_
  refine ci_newa (atype := .boolean) (ty := .boolean) (N' := 2) (j := 2) (a0 := (2, .inl (fun _ => 0))) C wi_a_boolean rfl rfl (fun _ => rfl) (by decide) (by decide) (Nat.le_of_ble_eq_true rfl) (Nat.le_of_ble_eq_true rfl) (Nat.le_of_ble_eq_true rfl) di11_126 (fun q16 => ?_)
  refine ci_putF (k := 36) (ty1 := .array .boolean) C kc_11 (by decide) rfl rfl rfl (by decide +kernel) rfl rfl (Nat.le_of_ble_eq_true rfl) wi_f11_60 di11_128 ?_
  refine ci_aload C di11_131 rfl 0 rfl ?_
  refine ci_iconst (v := 0) C di11_132 (by decide) ?_
  refine ci_put (k := 0) (ty1 := .int) C kc_11 (by decide) rfl rfl (by decide +kernel) rfl rfl (Nat.le_of_ble_eq_true rfl) wi_f11_63 di11_133 ?_
  exact ci_ret C hr di11_136 (fun _ h1 h2 => ⟨h1, h2⟩) ⟨fun i => [h0, q1, q2, q3, q4, q5, q6, q7, q8, q9, q10, q11, q12, q13, q14, q15, q16].getD i 0, rfl, rfl⟩
