theorem dX11_dry_0 : decode cX11_dry 0 = .ok (.iload_n 1, 1) := by decide +kernel
theorem dX11_dry_1 : decode cX11_dry 1 = .ok (.i2l, 1) := by decide +kernel
theorem dX11_dry_2 : decode cX11_dry 2 = .ok (.lconst 0, 1) := by decide +kernel
theorem dX11_dry_3 : decode cX11_dry 3 = .ok (.ldc2_w 279, 3) := by decide +kernel
theorem dX11_dry_6 : decode cX11_dry 6 = .ok (.invokestatic 69, 3) := by decide +kernel
theorem dX11_dry_9 : decode cX11_dry 9 = .ok (.ifCond .eq 15, 3) := by decide +kernel
theorem dX11_dry_12 : decode cX11_dry 12 = .ok (.iload_n 2, 1) := by decide +kernel
theorem dX11_dry_13 : decode cX11_dry 13 = .ok (.i2l, 1) := by decide +kernel
theorem dX11_dry_14 : decode cX11_dry 14 = .ok (.lconst 0, 1) := by decide +kernel
theorem dX11_dry_15 : decode cX11_dry 15 = .ok (.ldc2_w 299, 3) := by decide +kernel
theorem dX11_dry_18 : decode cX11_dry 18 = .ok (.invokestatic 69, 3) := by decide +kernel
theorem dX11_dry_21 : decode cX11_dry 21 = .ok (.ifCond .ne 6, 3) := by decide +kernel
theorem dX11_dry_24 : decode cX11_dry 24 = .ok (.ldc 96, 2) := by decide +kernel
theorem dX11_dry_26 : decode cX11_dry 26 = .ok (.ireturn, 1) := by decide +kernel
theorem dX11_dry_27 : decode cX11_dry 27 = .ok (.ldc2_w 301, 3) := by decide +kernel
theorem dX11_dry_30 : decode cX11_dry 30 = .ok (.lstore_n 3, 1) := by decide +kernel
theorem dX11_dry_31 : decode cX11_dry 31 = .ok (.iconst 0, 1) := by decide +kernel
theorem dX11_dry_32 : decode cX11_dry 32 = .ok (.istore 5, 2) := by decide +kernel
theorem dX11_dry_34 : decode cX11_dry 34 = .ok (.iload 5, 2) := by decide +kernel
theorem dX11_dry_36 : decode cX11_dry 36 = .ok (.iload_n 1, 1) := by decide +kernel
theorem dX11_dry_37 : decode cX11_dry 37 = .ok (.if_icmp .ge 18, 3) := by decide +kernel
theorem dX11_dry_40 : decode cX11_dry 40 = .ok (.lload_n 3, 1) := by decide +kernel
theorem dX11_dry_41 : decode cX11_dry 41 = .ok (.iload_n 2, 1) := by decide +kernel
theorem dX11_dry_42 : decode cX11_dry 42 = .ok (.i2l, 1) := by decide +kernel
theorem dX11_dry_43 : decode cX11_dry 43 = .ok (.lmul, 1) := by decide +kernel
theorem dX11_dry_44 : decode cX11_dry 44 = .ok (.ldc2_w 299, 3) := by decide +kernel
theorem dX11_dry_47 : decode cX11_dry 47 = .ok (.ldiv, 1) := by decide +kernel
theorem dX11_dry_48 : decode cX11_dry 48 = .ok (.lstore_n 3, 1) := by decide +kernel
theorem dX11_dry_49 : decode cX11_dry 49 = .ok (.iinc 5 1, 3) := by decide +kernel
theorem dX11_dry_52 : decode cX11_dry 52 = .ok (.goto (-18), 3) := by decide +kernel
theorem dX11_dry_55 : decode cX11_dry 55 = .ok (.lload_n 3, 1) := by decide +kernel
theorem dX11_dry_56 : decode cX11_dry 56 = .ok (.l2i, 1) := by decide +kernel
theorem dX11_dry_57 : decode cX11_dry 57 = .ok (.ireturn, 1) := by decide +kernel
def Mo_dry_L34_b (a0 : Int32) (a1 : Int32) (rec : Int64 → Int32 → Option (Int64)) (y5 : Int64) (y6 : Int32) : Option (Int64) :=
  if a0 ≤ y6 then (
    some (y5)
  ) else (
    gm_lt (α := Int64) ((y5 * ((a1 : Int32).toInt64)) / 100) fun x9 =>
    gm_lt (α := Int32) (y6 + 1) fun x10 =>
    rec x9 x10
  )
def Mo_dry_L34 (a0 : Int32) (a1 : Int32) : Nat → Int64 → Int32 → Option (Int64)
  | 0 => fun _ _ => none
  | n + 1 => Mo_dry_L34_b a0 a1 (Mo_dry_L34 a0 a1 n)
def Mo_dry (fl : Nat) (a0 : Int32) (a1 : Int32) : Option Int32 :=
  gm_bp1 (Mo_in ((a0 : Int32).toInt64) 0 60) fun v1 =>
  if v1 = 0 then (
    some ((-1000000002))
  ) else (
    gm_bp1 (Mo_in ((a1 : Int32).toInt64) 0 100) fun v3 =>
    if v3 = 0 then (
      some ((-1000000002))
    ) else (
      gm_bp1 (Mo_dry_L34 a0 a1 fl 1000000000 0) fun z7 =>
      some ((z7 : Int64).toInt32)
    )
  )
set_option maxHeartbeats 4000000 in
set_option maxRecDepth 100000 in
theorem Mo_dry_c (l : Launch) (cf : gm_C) (ad : Nat → Nat) {fl : Nat}   {a0 : Int32} {a1 : Int32} {S : gm_M} {r : Int32}  (hf : Mo_dry fl a0 a1 = some r) : gm_Met l yX11_dry cX11_dry 6 (some .int) 1 25 cf ad gm_sM 17 [.ref (ad 0), .int a0, .int a1] S (some (.int r)) S := by
  refine gm_met (by decide +kernel) (Nat.le_of_ble_eq_true rfl) ?_
  intro p e s m args below meth c C hr
  have C : gm_F p s m args meth c cf ad 17 cX11_dry 6 RX11 := C
  refine gm_lve (lv' := [(0, .ref (ad 0)), (1, .int a0), (2, .int a1)]) rfl ?_
  unfold Mo_dry at hf
  refine gm_iload_n C dX11_dry_0 rfl 1 rfl ?_
  refine gm_i2l C dX11_dry_1 rfl ?_
  refine gm_lconst (v := 0) C dX11_dry_2 (by decide) ?_
  refine gm_ldc2 (v := 60) C wl_1192 dX11_dry_3 ?_
  obtain ⟨v1, ev1, hf⟩ := gm_bp1_s hf
  refine gm_callSi (As := [.long ((a0 : Int32).toInt64), .long 0, .long 60]) C (Mo_in_c l cf ad ev1 (S := S)) wy_Mo_in wl_957 rfl ⟨(Nat.le_of_ble_eq_true rfl), (Nat.le_of_ble_eq_true rfl)⟩ rfl (Nat.le_of_ble_eq_true rfl) dX11_dry_6 ?_
  refine gm_if_eq C 24 dX11_dry_9 (by decide) (fun c2 => ?_) (fun c2 => ?_)
  · have hf := gm_it _ c2 hf
    refine gm_ldc (v := (-1000000002)) C wl_960 dX11_dry_24 ?_
    exact gm_iretK C hr rfl dX11_dry_26 hf
  · have hf := gm_if _ c2 hf
    refine gm_iload_n C dX11_dry_12 rfl 2 rfl ?_
    refine gm_i2l C dX11_dry_13 rfl ?_
    refine gm_lconst (v := 0) C dX11_dry_14 (by decide) ?_
    refine gm_ldc2 (v := 100) C wl_1250 dX11_dry_15 ?_
    obtain ⟨v3, ev3, hf⟩ := gm_bp1_s hf
    refine gm_callSi (As := [.long ((a1 : Int32).toInt64), .long 0, .long 100]) C (Mo_in_c l cf ad ev3 (S := S)) wy_Mo_in wl_957 rfl ⟨(Nat.le_of_ble_eq_true rfl), (Nat.le_of_ble_eq_true rfl)⟩ rfl (Nat.le_of_ble_eq_true rfl) dX11_dry_18 ?_
    refine gm_if_ne C 27 dX11_dry_21 (by decide) (fun c4 => ?_) (fun c4 => ?_)
    · have hf := gm_if _ c4 hf
      refine gm_ldc2 (v := 1000000000) C wl_1251 dX11_dry_27 ?_
      refine gm_lstore_n (lv' := [(3, .long 1000000000), (0, .ref (ad 0)), (1, .int a0), (2, .int a1)]) C dX11_dry_30 rfl (by decide) rfl ?_
      refine gm_iconst (v := 0) C dX11_dry_31 (by decide) ?_
      refine gm_istore (lv' := [(5, .int 0), (3, .long 1000000000), (0, .ref (ad 0)), (1, .int a0), (2, .int a1)]) C dX11_dry_32 (by decide) rfl ?_
      have L34 : ∀ (n : Nat) (y5 : Int64) (y6 : Int32) (z7 : Int64), Mo_dry_L34 a0 a1 n y5 y6 = some (z7) → gm_G p l e { frames := 1, cells := 0, slots := 0, locals := 25 } s m args below meth c (MQ below (gm_Q cf ad gm_sM 17 (some (.int r)) S) args s 0 0 (gm_A ad 17)) cf ad gm_sM 17 6 S 55 [(3, .long z7)] [] → gm_G p l e { frames := 1, cells := 0, slots := 0, locals := 25 } s m args below meth c (MQ below (gm_Q cf ad gm_sM 17 (some (.int r)) S) args s 0 0 (gm_A ad 17)) cf ad gm_sM 17 6 S 34 [(1, .int a0), (2, .int a1), (3, .long y5), (5, .int y6)] [] := by
        intro n
        induction n with
        | zero => intro y5 y6 z7 hf K; cases (show (none : Option _) = some _ from hf)
        | succ n ih =>
          intro y5 y6 z7 hf K
          have hf : Mo_dry_L34_b a0 a1 (Mo_dry_L34 a0 a1 n) y5 y6 = some (z7) := hf
          unfold Mo_dry_L34_b at hf
          refine gm_iload C dX11_dry_34 3 rfl ?_
          refine gm_iload_n C dX11_dry_36 rfl 0 rfl ?_
          refine gm_icmp_ge C 55 dX11_dry_37 (by decide) (fun c8 => ?_) (fun c8 => ?_)
          · have hf := gm_it _ c8 hf
            cases hf
            exact gm_lvp [2] rfl K
          · have hf := gm_if _ c8 hf
            refine gm_lload_n C dX11_dry_40 rfl 2 rfl ?_
            refine gm_iload_n C dX11_dry_41 rfl 1 rfl ?_
            refine gm_i2l C dX11_dry_42 rfl ?_
            refine gm_lmul C dX11_dry_43 ?_
            refine gm_ldc2 (v := 100) C wl_1250 dX11_dry_44 ?_
            refine gm_ldiv C dX11_dry_47 (by decide) ?_
            obtain ⟨x9, ex9, hf⟩ := gm_lt_s hf
            refine gm_topl ex9 ?_
            refine gm_lstore_n (lv' := [(3, .long x9), (1, .int a0), (2, .int a1), (5, .int y6)]) C dX11_dry_48 rfl (by decide) rfl ?_
            obtain ⟨x10, ex10, hf⟩ := gm_lt_s hf
            refine gm_iinc (v := x10) (lv' := [(5, .int x10), (3, .long x9), (1, .int a0), (2, .int a1)]) (j := 3) C dX11_dry_49 rfl (by rw [ex10]; rfl) (by decide) rfl ?_
            refine gm_goto C 34 dX11_dry_52 (by decide) ?_
            exact gm_lvp [2, 3, 1, 0] rfl (ih _ _ _ hf K)
      obtain ⟨z7, hx, hf⟩ := gm_bp1_s hf
      refine gm_lvp [3, 4, 1, 0] rfl (L34 fl _ _ _ hx ?_)
      refine gm_lload_n C dX11_dry_55 rfl 0 rfl ?_
      refine gm_l2i C dX11_dry_56 rfl ?_
      exact gm_iretK C hr rfl dX11_dry_57 hf
    · have hf := gm_it _ c4 hf
      refine gm_ldc (v := (-1000000002)) C wl_960 dX11_dry_24 ?_
      exact gm_iretK C hr rfl dX11_dry_26 hf
theorem dX11_see_0 : decode cX11_see 0 = .ok (.aload_n 0, 1) := by decide +kernel
theorem dX11_see_1 : decode cX11_see 1 = .ok (.iload_n 1, 1) := by decide +kernel
theorem dX11_see_2 : decode cX11_see 2 = .ok (.invokevirtual 265, 3) := by decide +kernel
theorem dX11_see_5 : decode cX11_see 5 = .ok (.ifCond .ne 6, 3) := by decide +kernel
theorem dX11_see_8 : decode cX11_see 8 = .ok (.ldc 96, 2) := by decide +kernel
theorem dX11_see_10 : decode cX11_see 10 = .ok (.ireturn, 1) := by decide +kernel
theorem dX11_see_11 : decode cX11_see 11 = .ok (.aload_n 0, 1) := by decide +kernel
theorem dX11_see_12 : decode cX11_see 12 = .ok (.getfield 185, 3) := by decide +kernel
theorem dX11_see_15 : decode cX11_see 15 = .ok (.bipush 8, 2) := by decide +kernel
theorem dX11_see_17 : decode cX11_see 17 = .ok (.if_icmp .ne 6, 3) := by decide +kernel
theorem dX11_see_20 : decode cX11_see 20 = .ok (.ldc 100, 2) := by decide +kernel
theorem dX11_see_22 : decode cX11_see 22 = .ok (.ireturn, 1) := by decide +kernel
theorem dX11_see_23 : decode cX11_see 23 = .ok (.aload_n 0, 1) := by decide +kernel
theorem dX11_see_24 : decode cX11_see 24 = .ok (.getfield 44, 3) := by decide +kernel
theorem dX11_see_27 : decode cX11_see 27 = .ok (.aload_n 0, 1) := by decide +kernel
theorem dX11_see_28 : decode cX11_see 28 = .ok (.getfield 185, 3) := by decide +kernel
theorem dX11_see_31 : decode cX11_see 31 = .ok (.iload_n 1, 1) := by decide +kernel
theorem dX11_see_32 : decode cX11_see 32 = .ok (.iastore, 1) := by decide +kernel
theorem dX11_see_33 : decode cX11_see 33 = .ok (.aload_n 0, 1) := by decide +kernel
theorem dX11_see_34 : decode cX11_see 34 = .ok (.getfield 47, 3) := by decide +kernel
theorem dX11_see_37 : decode cX11_see 37 = .ok (.aload_n 0, 1) := by decide +kernel
theorem dX11_see_38 : decode cX11_see 38 = .ok (.getfield 185, 3) := by decide +kernel
theorem dX11_see_41 : decode cX11_see 41 = .ok (.iload_n 2, 1) := by decide +kernel
theorem dX11_see_42 : decode cX11_see 42 = .ok (.bastore, 1) := by decide +kernel
theorem dX11_see_43 : decode cX11_see 43 = .ok (.aload_n 0, 1) := by decide +kernel
theorem dX11_see_44 : decode cX11_see 44 = .ok (.dup, 1) := by decide +kernel
theorem dX11_see_45 : decode cX11_see 45 = .ok (.getfield 185, 3) := by decide +kernel
theorem dX11_see_48 : decode cX11_see 48 = .ok (.iconst 1, 1) := by decide +kernel
theorem dX11_see_49 : decode cX11_see 49 = .ok (.iadd, 1) := by decide +kernel
theorem dX11_see_50 : decode cX11_see 50 = .ok (.putfield 185, 3) := by decide +kernel
theorem dX11_see_53 : decode cX11_see 53 = .ok (.aload_n 0, 1) := by decide +kernel
theorem dX11_see_54 : decode cX11_see 54 = .ok (.getfield 185, 3) := by decide +kernel
theorem dX11_see_57 : decode cX11_see 57 = .ok (.ireturn, 1) := by decide +kernel
def Mo_see (a0 : Int32) (a1 : Int32) (S : gm_M) : Option (Int32 × gm_M) :=
  gm_bp1 (Mo_isNumber a0 S) fun v1 =>
  if v1 = 0 then (
    some ((-1000000002), S)
  ) else (
    if S.1 0 29 = 8 then (
      some ((-1000000004), S)
    ) else (
      gm_ck (S.1 0 29) 8 <|
      gm_lt (α := gm_M) (gm_ui S 11 ((S.1 0 29).toNatClampNeg) a0) fun S5 =>
      gm_ck (S5.1 0 29) 8 <|
      gm_lt (α := gm_M) (gm_ui S5 12 ((S5.1 0 29).toNatClampNeg) (vp_nar .boolean a1)) fun S7 =>
      gm_lt (α := gm_M) (gm_ui S7 0 29 ((S7.1 0 29) + 1)) fun S8 =>
      some (S8.1 0 29, S8)
    )
  )
set_option maxHeartbeats 4000000 in
set_option maxRecDepth 100000 in
theorem Mo_see_c (l : Launch) (cf : gm_C) (ad : Nat → Nat)    {a0 : Int32} {a1 : Int32} {S : gm_M} {r : Int32} {S'  : gm_M} (hf : Mo_see a0 a1 S = some (r, S')) : gm_Met l yX11_see cX11_see 3 (some .int) 2 46 cf ad gm_sM 17 [.ref (ad 0), .int a0, .int a1] S (some (.int r)) S' := by
  refine gm_met (by decide +kernel) (Nat.le_of_ble_eq_true rfl) ?_
  intro p e s m args below meth c C hr
  have C : gm_F p s m args meth c cf ad 17 cX11_see 3 RX11 := C
  refine gm_lve (lv' := [(0, .ref (ad 0)), (1, .int a0), (2, .int a1)]) rfl ?_
  unfold Mo_see at hf
  refine gm_aload_n C dX11_see_0 rfl 0 rfl ?_
  refine gm_iload_n C dX11_see_1 rfl 1 rfl ?_
  obtain ⟨v1, ev1, hf⟩ := gm_bp1_s hf
  refine gm_callVi (As := [.int a0]) C (Mo_isNumber_c l cf ad ev1) (Nat.le_of_ble_eq_true rfl) rfl kc_11 wy_Mo_isNumber rfl wl_1167 rfl ⟨(Nat.le_of_ble_eq_true rfl), (Nat.le_of_ble_eq_true rfl)⟩ rfl (Nat.le_of_ble_eq_true rfl) dX11_see_2 ?_
  refine gm_if_ne C 11 dX11_see_5 (by decide) (fun c2 => ?_) (fun c2 => ?_)
  · have hf := gm_if _ c2 hf
    refine gm_aload_n C dX11_see_11 rfl 0 rfl ?_
    refine gm_geti C (Nat.le_of_ble_eq_true rfl) rfl kc_11 (k := 29) rfl (by decide) rfl wl_869 dX11_see_12 ?_
    refine gm_bipush (v := 8) C dX11_see_15 (by decide) ?_
    refine gm_icmp_ne C 23 dX11_see_17 (by decide) (fun c3 => ?_) (fun c3 => ?_)
    · have hf := gm_if _ c3 hf
      refine gm_aload_n C dX11_see_23 rfl 0 rfl ?_
      refine gm_getr (j := 11) (u := 11) C (Nat.le_of_ble_eq_true rfl) rfl kc_11 (k := 30) rfl (by decide) rfl rfl wl_870 dX11_see_24 ?_
      refine gm_aload_n C dX11_see_27 rfl 0 rfl ?_
      refine gm_geti C (Nat.le_of_ble_eq_true rfl) rfl kc_11 (k := 29) rfl (by decide) rfl wl_869 dX11_see_28 ?_
      refine gm_iload_n C dX11_see_31 rfl 1 rfl ?_
      obtain ⟨h4, hf⟩ := gm_ck_s hf
      refine gm_iast C (Nat.le_of_ble_eq_true rfl) rfl rfl h4 dX11_see_32 ?_
      obtain ⟨S5, eS5, hf⟩ := gm_lt_s hf
      refine gm_topm eS5 ?_
      refine gm_aload_n C dX11_see_33 rfl 0 rfl ?_
      refine gm_getr (j := 12) (u := 12) C (Nat.le_of_ble_eq_true rfl) rfl kc_11 (k := 31) rfl (by decide) rfl rfl wl_871 dX11_see_34 ?_
      refine gm_aload_n C dX11_see_37 rfl 0 rfl ?_
      refine gm_geti C (Nat.le_of_ble_eq_true rfl) rfl kc_11 (k := 29) rfl (by decide) rfl wl_869 dX11_see_38 ?_
      refine gm_iload_n C dX11_see_41 rfl 2 rfl ?_
      obtain ⟨h6, hf⟩ := gm_ck_s hf
      refine gm_zast C (Nat.le_of_ble_eq_true rfl) rfl rfl h6 dX11_see_42 ?_
      obtain ⟨S7, eS7, hf⟩ := gm_lt_s hf
      refine gm_topm eS7 ?_
      refine gm_aload_n C dX11_see_43 rfl 0 rfl ?_
      refine gm_dup C dX11_see_44 rfl ?_
      refine gm_geti C (Nat.le_of_ble_eq_true rfl) rfl kc_11 (k := 29) rfl (by decide) rfl wl_869 dX11_see_45 ?_
      refine gm_iconst (v := 1) C dX11_see_48 (by decide) ?_
      refine gm_iadd C dX11_see_49 ?_
      refine gm_puti C (Nat.le_of_ble_eq_true rfl) rfl kc_11 (k := 29) rfl (by decide) rfl rfl (kc_11.2.2.2.1 29 (by decide)) rfl rfl wl_869 dX11_see_50 ?_
      obtain ⟨S8, eS8, hf⟩ := gm_lt_s hf
      refine gm_topm eS8 ?_
      refine gm_aload_n C dX11_see_53 rfl 0 rfl ?_
      refine gm_geti C (Nat.le_of_ble_eq_true rfl) rfl kc_11 (k := 29) rfl (by decide) rfl wl_869 dX11_see_54 ?_
      exact gm_iret C hr rfl dX11_see_57 hf
    · have hf := gm_it _ c3 hf
      refine gm_ldc (v := (-1000000004)) C wl_961 dX11_see_20 ?_
      exact gm_iret C hr rfl dX11_see_22 hf
  · have hf := gm_it _ c2 hf
    refine gm_ldc (v := (-1000000002)) C wl_960 dX11_see_8 ?_
    exact gm_iret C hr rfl dX11_see_10 hf
theorem dX11_could_0 : decode cX11_could 0 = .ok (.iload_n 2, 1) := by decide +kernel
theorem dX11_could_1 : decode cX11_could 1 = .ok (.i2l, 1) := by decide +kernel
theorem dX11_could_2 : decode cX11_could 2 = .ok (.lconst 0, 1) := by decide +kernel
theorem dX11_could_3 : decode cX11_could 3 = .ok (.ldc2_w 84, 3) := by decide +kernel
theorem dX11_could_6 : decode cX11_could 6 = .ok (.invokestatic 69, 3) := by decide +kernel
theorem dX11_could_9 : decode cX11_could 9 = .ok (.ifCond .ne 6, 3) := by decide +kernel
theorem dX11_could_12 : decode cX11_could 12 = .ok (.ldc 96, 2) := by decide +kernel
theorem dX11_could_14 : decode cX11_could 14 = .ok (.ireturn, 1) := by decide +kernel
theorem dX11_could_15 : decode cX11_could 15 = .ok (.iconst 0, 1) := by decide +kernel
theorem dX11_could_16 : decode cX11_could 16 = .ok (.istore_n 3, 1) := by decide +kernel
theorem dX11_could_17 : decode cX11_could 17 = .ok (.iconst 0, 1) := by decide +kernel
theorem dX11_could_18 : decode cX11_could 18 = .ok (.istore 4, 2) := by decide +kernel
theorem dX11_could_20 : decode cX11_could 20 = .ok (.iload 4, 2) := by decide +kernel
theorem dX11_could_22 : decode cX11_could 22 = .ok (.sipush 171, 3) := by decide +kernel
theorem dX11_could_25 : decode cX11_could 25 = .ok (.if_icmp .ge 61, 3) := by decide +kernel
theorem dX11_could_28 : decode cX11_could 28 = .ok (.iload_n 1, 1) := by decide +kernel
theorem dX11_could_29 : decode cX11_could 29 = .ok (.ifCond .lt 57, 3) := by decide +kernel
theorem dX11_could_32 : decode cX11_could 32 = .ok (.aload_n 0, 1) := by decide +kernel
theorem dX11_could_33 : decode cX11_could 33 = .ok (.iload 4, 2) := by decide +kernel
theorem dX11_could_35 : decode cX11_could 35 = .ok (.invokevirtual 318, 3) := by decide +kernel
theorem dX11_could_38 : decode cX11_could 38 = .ok (.ifCond .eq 42, 3) := by decide +kernel
theorem dX11_could_41 : decode cX11_could 41 = .ok (.iload_n 3, 1) := by decide +kernel
theorem dX11_could_42 : decode cX11_could 42 = .ok (.iload_n 1, 1) := by decide +kernel
theorem dX11_could_43 : decode cX11_could 43 = .ok (.if_icmp .ne 34, 3) := by decide +kernel
theorem dX11_could_46 : decode cX11_could 46 = .ok (.iload_n 2, 1) := by decide +kernel
theorem dX11_could_47 : decode cX11_could 47 = .ok (.ifCond .ne 11, 3) := by decide +kernel
theorem dX11_could_50 : decode cX11_could 50 = .ok (.iload 4, 2) := by decide +kernel
theorem dX11_could_52 : decode cX11_could 52 = .ok (.invokestatic 303, 3) := by decide +kernel
theorem dX11_could_55 : decode cX11_could 55 = .ok (.goto 21, 3) := by decide +kernel
theorem dX11_could_58 : decode cX11_could 58 = .ok (.iload_n 2, 1) := by decide +kernel
theorem dX11_could_59 : decode cX11_could 59 = .ok (.iconst 1, 1) := by decide +kernel
theorem dX11_could_60 : decode cX11_could 60 = .ok (.if_icmp .ne 11, 3) := by decide +kernel
theorem dX11_could_63 : decode cX11_could 63 = .ok (.iload 4, 2) := by decide +kernel
theorem dX11_could_65 : decode cX11_could 65 = .ok (.invokestatic 309, 3) := by decide +kernel
theorem dX11_could_68 : decode cX11_could 68 = .ok (.goto 8, 3) := by decide +kernel
theorem dX11_could_71 : decode cX11_could 71 = .ok (.iload 4, 2) := by decide +kernel
theorem dX11_could_73 : decode cX11_could 73 = .ok (.invokestatic 312, 3) := by decide +kernel
theorem dX11_could_76 : decode cX11_could 76 = .ok (.ireturn, 1) := by decide +kernel
theorem dX11_could_77 : decode cX11_could 77 = .ok (.iinc 3 1, 3) := by decide +kernel
theorem dX11_could_80 : decode cX11_could 80 = .ok (.iinc 4 1, 3) := by decide +kernel
theorem dX11_could_83 : decode cX11_could 83 = .ok (.goto (-63), 3) := by decide +kernel
theorem dX11_could_86 : decode cX11_could 86 = .ok (.iconst (-1), 1) := by decide +kernel
theorem dX11_could_87 : decode cX11_could 87 = .ok (.ireturn, 1) := by decide +kernel
def Mo_could_L20_b (fl : Nat) (a0 : Int32) (a1 : Int32) (S : gm_M) (rec : Int32 → Int32 → Option Int32) (y3 : Int32) (y4 : Int32) : Option Int32 :=
  if (171 : Int32) ≤ y4 then (
    some ((-1))
  ) else (
    if a0 < 0 then (
      some ((-1))
    ) else (
      gm_bp1 (Mo_couldBe fl y4 S) fun v7 =>
      if v7 = 0 then (
        gm_lt (α := Int32) (y4 + 1) fun x9 =>
        rec y3 x9
      ) else (
        if y3 = a0 then (
          if a1 = 0 then (
            gm_bp1 (Mo_kindOf y4) fun v17 =>
            some (v17)
          ) else (
            if a1 = 1 then (
              gm_bp1 (Mo_aOf fl y4) fun v16 =>
              some (v16)
            ) else (
              gm_bp1 (Mo_bOf fl y4) fun v15 =>
              some (v15)
            )
          )
        ) else (
          gm_lt (α := Int32) (y3 + 1) fun x11 =>
          gm_lt (α := Int32) (y4 + 1) fun x12 =>
          rec x11 x12
        )
      )
    )
  )
def Mo_could_L20 (fl : Nat) (a0 : Int32) (a1 : Int32) (S : gm_M) : Nat → Int32 → Int32 → Option Int32
  | 0 => fun _ _ => none
  | n + 1 => Mo_could_L20_b fl a0 a1 S (Mo_could_L20 fl a0 a1 S n)
def Mo_could (fl : Nat) (a0 : Int32) (a1 : Int32) (S : gm_M) : Option Int32 :=
  gm_bp1 (Mo_in ((a1 : Int32).toInt64) 0 2) fun v1 =>
  if v1 = 0 then (
    some ((-1000000002))
  ) else (
    Mo_could_L20 fl a0 a1 S fl 0 0
  )
set_option maxHeartbeats 4000000 in
set_option maxRecDepth 100000 in
theorem Mo_could_c (l : Launch) (cf : gm_C) (ad : Nat → Nat) {fl : Nat}   {a0 : Int32} {a1 : Int32} {S : gm_M} {r : Int32}  (hf : Mo_could fl a0 a1 S = some r) : gm_Met l yX11_could cX11_could 5 (some .int) 5 118 cf ad gm_sM 17 [.ref (ad 0), .int a0, .int a1] S (some (.int r)) S := by
  refine gm_met (by decide +kernel) (Nat.le_of_ble_eq_true rfl) ?_
  intro p e s m args below meth c C hr
  have C : gm_F p s m args meth c cf ad 17 cX11_could 5 RX11 := C
  refine gm_lve (lv' := [(0, .ref (ad 0)), (1, .int a0), (2, .int a1)]) rfl ?_
  unfold Mo_could at hf
  refine gm_iload_n C dX11_could_0 rfl 2 rfl ?_
  refine gm_i2l C dX11_could_1 rfl ?_
  refine gm_lconst (v := 0) C dX11_could_2 (by decide) ?_
  refine gm_ldc2 (v := 2) C wl_1013 dX11_could_3 ?_
  obtain ⟨v1, ev1, hf⟩ := gm_bp1_s hf
  refine gm_callSi (As := [.long ((a1 : Int32).toInt64), .long 0, .long 2]) C (Mo_in_c l cf ad ev1 (S := S)) wy_Mo_in wl_957 rfl ⟨(Nat.le_of_ble_eq_true rfl), (Nat.le_of_ble_eq_true rfl)⟩ rfl (Nat.le_of_ble_eq_true rfl) dX11_could_6 ?_
  refine gm_if_ne C 15 dX11_could_9 (by decide) (fun c2 => ?_) (fun c2 => ?_)
  · have hf := gm_if _ c2 hf
    refine gm_iconst (v := 0) C dX11_could_15 (by decide) ?_
    refine gm_istore_n (lv' := [(3, .int 0), (0, .ref (ad 0)), (1, .int a0), (2, .int a1)]) C dX11_could_16 rfl (by decide) rfl ?_
    refine gm_iconst (v := 0) C dX11_could_17 (by decide) ?_
    refine gm_istore (lv' := [(4, .int 0), (3, .int 0), (0, .ref (ad 0)), (1, .int a0), (2, .int a1)]) C dX11_could_18 (by decide) rfl ?_
    have L20 : ∀ (n : Nat) (y3 : Int32) (y4 : Int32), Mo_could_L20 fl a0 a1 S n y3 y4 = some r → gm_G p l e { frames := 5, cells := 0, slots := 0, locals := 118 } s m args below meth c (MQ below (gm_Q cf ad gm_sM 17 (some (.int r)) S) args s 0 0 (gm_A ad 17)) cf ad gm_sM 17 5 S 20 [(0, .ref (ad 0)), (1, .int a0), (2, .int a1), (3, .int y3), (4, .int y4)] [] := by
      intro n
      induction n with
      | zero => intro y3 y4 hf; cases (show (none : Option _) = some _ from hf)
      | succ n ih =>
        intro y3 y4 hf
        have hf : Mo_could_L20_b fl a0 a1 S (Mo_could_L20 fl a0 a1 S n) y3 y4 = some r := hf
        unfold Mo_could_L20_b at hf
        refine gm_iload C dX11_could_20 4 rfl ?_
        refine gm_sipush (v := 171) C dX11_could_22 (by decide) ?_
        refine gm_icmp_ge C 86 dX11_could_25 (by decide) (fun c5 => ?_) (fun c5 => ?_)
        · have hf := gm_it _ c5 hf
          refine gm_iconst (v := (-1)) C dX11_could_86 (by decide) ?_
          exact gm_iretK C hr rfl dX11_could_87 hf
        · have hf := gm_if _ c5 hf
          refine gm_iload_n C dX11_could_28 rfl 1 rfl ?_
          refine gm_if_lt C 86 dX11_could_29 (by decide) (fun c6 => ?_) (fun c6 => ?_)
          · have hf := gm_it _ c6 hf
            refine gm_iconst (v := (-1)) C dX11_could_86 (by decide) ?_
            exact gm_iretK C hr rfl dX11_could_87 hf
          · have hf := gm_if _ c6 hf
            refine gm_aload_n C dX11_could_32 rfl 0 rfl ?_
            refine gm_iload C dX11_could_33 4 rfl ?_
            obtain ⟨v7, ev7, hf⟩ := gm_bp1_s hf
            refine gm_callVi (As := [.int y4]) C (Mo_couldBe_c l cf ad ev7) (Nat.le_of_ble_eq_true rfl) rfl kc_11 wy_Mo_couldBe rfl wl_1098 rfl ⟨(Nat.le_of_ble_eq_true rfl), (Nat.le_of_ble_eq_true rfl)⟩ rfl (Nat.le_of_ble_eq_true rfl) dX11_could_35 ?_
            refine gm_if_eq C 80 dX11_could_38 (by decide) (fun c8 => ?_) (fun c8 => ?_)
            · have hf := gm_it _ c8 hf
              obtain ⟨x9, ex9, hf⟩ := gm_lt_s hf
              refine gm_iinc (v := x9) (lv' := [(4, .int x9), (0, .ref (ad 0)), (1, .int a0), (2, .int a1), (3, .int y3)]) (j := 4) C dX11_could_80 rfl (by rw [ex9]; rfl) (by decide) rfl ?_
              refine gm_goto C 20 dX11_could_83 (by decide) ?_
              exact gm_lvp [1, 2, 3, 4, 0] rfl (ih _ _ hf)
            · have hf := gm_if _ c8 hf
              refine gm_iload_n C dX11_could_41 rfl 3 rfl ?_
              refine gm_iload_n C dX11_could_42 rfl 1 rfl ?_
              refine gm_icmp_ne C 77 dX11_could_43 (by decide) (fun c10 => ?_) (fun c10 => ?_)
              · have hf := gm_if _ c10 hf
                obtain ⟨x11, ex11, hf⟩ := gm_lt_s hf
                refine gm_iinc (v := x11) (lv' := [(3, .int x11), (0, .ref (ad 0)), (1, .int a0), (2, .int a1), (4, .int y4)]) (j := 3) C dX11_could_77 rfl (by rw [ex11]; rfl) (by decide) rfl ?_
                obtain ⟨x12, ex12, hf⟩ := gm_lt_s hf
                refine gm_iinc (v := x12) (lv' := [(4, .int x12), (3, .int x11), (0, .ref (ad 0)), (1, .int a0), (2, .int a1)]) (j := 4) C dX11_could_80 rfl (by rw [ex12]; rfl) (by decide) rfl ?_
                refine gm_goto C 20 dX11_could_83 (by decide) ?_
                exact gm_lvp [2, 3, 4, 1, 0] rfl (ih _ _ hf)
              · have hf := gm_it _ c10 hf
                refine gm_iload_n C dX11_could_46 rfl 2 rfl ?_
                refine gm_if_ne C 58 dX11_could_47 (by decide) (fun c13 => ?_) (fun c13 => ?_)
                · have hf := gm_if _ c13 hf
                  refine gm_iload_n C dX11_could_58 rfl 2 rfl ?_
                  refine gm_iconst (v := 1) C dX11_could_59 (by decide) ?_
                  refine gm_icmp_ne C 71 dX11_could_60 (by decide) (fun c14 => ?_) (fun c14 => ?_)
                  · have hf := gm_if _ c14 hf
                    refine gm_iload C dX11_could_71 4 rfl ?_
                    obtain ⟨v15, ev15, hf⟩ := gm_bp1_s hf
                    refine gm_callSi (As := [.int y4]) C (Mo_bOf_c l cf ad ev15 (S := S)) wy_Mo_bOf wl_1115 rfl ⟨(Nat.le_of_ble_eq_true rfl), (Nat.le_of_ble_eq_true rfl)⟩ rfl (Nat.le_of_ble_eq_true rfl) dX11_could_73 ?_
                    exact gm_iretK C hr rfl dX11_could_76 hf
                  · have hf := gm_it _ c14 hf
                    refine gm_iload C dX11_could_63 4 rfl ?_
                    obtain ⟨v16, ev16, hf⟩ := gm_bp1_s hf
                    refine gm_callSi (As := [.int y4]) C (Mo_aOf_c l cf ad ev16 (S := S)) wy_Mo_aOf wl_1109 rfl ⟨(Nat.le_of_ble_eq_true rfl), (Nat.le_of_ble_eq_true rfl)⟩ rfl (Nat.le_of_ble_eq_true rfl) dX11_could_65 ?_
                    refine gm_goto C 76 dX11_could_68 (by decide) ?_
                    exact gm_iretK C hr rfl dX11_could_76 hf
                · have hf := gm_it _ c13 hf
                  refine gm_iload C dX11_could_50 4 rfl ?_
                  obtain ⟨v17, ev17, hf⟩ := gm_bp1_s hf
                  refine gm_callSi (As := [.int y4]) C (Mo_kindOf_c l cf ad ev17 (S := S)) wy_Mo_kindOf wl_1106 rfl ⟨(Nat.le_of_ble_eq_true rfl), (Nat.le_of_ble_eq_true rfl)⟩ rfl (Nat.le_of_ble_eq_true rfl) dX11_could_52 ?_
                  refine gm_goto C 76 dX11_could_55 (by decide) ?_
                  exact gm_iretK C hr rfl dX11_could_76 hf
    exact gm_lvp [2, 3, 4, 1, 0] rfl (L20 fl _ _ hf)
  · have hf := gm_it _ c2 hf
    refine gm_ldc (v := (-1000000002)) C wl_960 dX11_could_12 ?_
    exact gm_iretK C hr rfl dX11_could_14 hf
theorem dX11_write_0 : decode cX11_write 0 = .ok (.aload_n 0, 1) := by decide +kernel
theorem dX11_write_1 : decode cX11_write 1 = .ok (.iload_n 1, 1) := by decide +kernel
theorem dX11_write_2 : decode cX11_write 2 = .ok (.invokevirtual 265, 3) := by decide +kernel
theorem dX11_write_5 : decode cX11_write 5 = .ok (.ifCond .ne 6, 3) := by decide +kernel
theorem dX11_write_8 : decode cX11_write 8 = .ok (.ldc 96, 2) := by decide +kernel
theorem dX11_write_10 : decode cX11_write 10 = .ok (.ireturn, 1) := by decide +kernel
theorem dX11_write_11 : decode cX11_write 11 = .ok (.aload_n 0, 1) := by decide +kernel
theorem dX11_write_12 : decode cX11_write 12 = .ok (.getfield 188, 3) := by decide +kernel
theorem dX11_write_15 : decode cX11_write 15 = .ok (.bipush 15, 2) := by decide +kernel
theorem dX11_write_17 : decode cX11_write 17 = .ok (.if_icmp .ne 6, 3) := by decide +kernel
theorem dX11_write_20 : decode cX11_write 20 = .ok (.ldc 100, 2) := by decide +kernel
theorem dX11_write_22 : decode cX11_write 22 = .ok (.ireturn, 1) := by decide +kernel
theorem dX11_write_23 : decode cX11_write 23 = .ok (.aload_n 0, 1) := by decide +kernel
theorem dX11_write_24 : decode cX11_write 24 = .ok (.getfield 51, 3) := by decide +kernel
theorem dX11_write_27 : decode cX11_write 27 = .ok (.aload_n 0, 1) := by decide +kernel
theorem dX11_write_28 : decode cX11_write 28 = .ok (.getfield 188, 3) := by decide +kernel
theorem dX11_write_31 : decode cX11_write 31 = .ok (.iload_n 1, 1) := by decide +kernel
theorem dX11_write_32 : decode cX11_write 32 = .ok (.iastore, 1) := by decide +kernel
theorem dX11_write_33 : decode cX11_write 33 = .ok (.aload_n 0, 1) := by decide +kernel
theorem dX11_write_34 : decode cX11_write 34 = .ok (.getfield 54, 3) := by decide +kernel
theorem dX11_write_37 : decode cX11_write 37 = .ok (.aload_n 0, 1) := by decide +kernel
theorem dX11_write_38 : decode cX11_write 38 = .ok (.getfield 188, 3) := by decide +kernel
theorem dX11_write_41 : decode cX11_write 41 = .ok (.iload_n 2, 1) := by decide +kernel
theorem dX11_write_42 : decode cX11_write 42 = .ok (.bastore, 1) := by decide +kernel
theorem dX11_write_43 : decode cX11_write 43 = .ok (.aload_n 0, 1) := by decide +kernel
theorem dX11_write_44 : decode cX11_write 44 = .ok (.dup, 1) := by decide +kernel
theorem dX11_write_45 : decode cX11_write 45 = .ok (.getfield 188, 3) := by decide +kernel
theorem dX11_write_48 : decode cX11_write 48 = .ok (.iconst 1, 1) := by decide +kernel
theorem dX11_write_49 : decode cX11_write 49 = .ok (.iadd, 1) := by decide +kernel
theorem dX11_write_50 : decode cX11_write 50 = .ok (.putfield 188, 3) := by decide +kernel
theorem dX11_write_53 : decode cX11_write 53 = .ok (.aload_n 0, 1) := by decide +kernel
theorem dX11_write_54 : decode cX11_write 54 = .ok (.getfield 188, 3) := by decide +kernel
theorem dX11_write_57 : decode cX11_write 57 = .ok (.ireturn, 1) := by decide +kernel
def Mo_write (a0 : Int32) (a1 : Int32) (S : gm_M) : Option (Int32 × gm_M) :=
  gm_bp1 (Mo_isNumber a0 S) fun v1 =>
  if v1 = 0 then (
    some ((-1000000002), S)
  ) else (
    if S.1 0 32 = 15 then (
      some ((-1000000004), S)
    ) else (
      gm_ck (S.1 0 32) 15 <|
      gm_lt (α := gm_M) (gm_ui S 13 ((S.1 0 32).toNatClampNeg) a0) fun S5 =>
      gm_ck (S5.1 0 32) 15 <|
      gm_lt (α := gm_M) (gm_ui S5 14 ((S5.1 0 32).toNatClampNeg) (vp_nar .boolean a1)) fun S7 =>
      gm_lt (α := gm_M) (gm_ui S7 0 32 ((S7.1 0 32) + 1)) fun S8 =>
      some (S8.1 0 32, S8)
    )
  )
set_option maxHeartbeats 4000000 in
set_option maxRecDepth 100000 in
theorem Mo_write_c (l : Launch) (cf : gm_C) (ad : Nat → Nat)    {a0 : Int32} {a1 : Int32} {S : gm_M} {r : Int32} {S'  : gm_M} (hf : Mo_write a0 a1 S = some (r, S')) : gm_Met l yX11_write cX11_write 3 (some .int) 2 46 cf ad gm_sM 17 [.ref (ad 0), .int a0, .int a1] S (some (.int r)) S' := by
  refine gm_met (by decide +kernel) (Nat.le_of_ble_eq_true rfl) ?_
  intro p e s m args below meth c C hr
  have C : gm_F p s m args meth c cf ad 17 cX11_write 3 RX11 := C
  refine gm_lve (lv' := [(0, .ref (ad 0)), (1, .int a0), (2, .int a1)]) rfl ?_
  unfold Mo_write at hf
  refine gm_aload_n C dX11_write_0 rfl 0 rfl ?_
  refine gm_iload_n C dX11_write_1 rfl 1 rfl ?_
  obtain ⟨v1, ev1, hf⟩ := gm_bp1_s hf
  refine gm_callVi (As := [.int a0]) C (Mo_isNumber_c l cf ad ev1) (Nat.le_of_ble_eq_true rfl) rfl kc_11 wy_Mo_isNumber rfl wl_1167 rfl ⟨(Nat.le_of_ble_eq_true rfl), (Nat.le_of_ble_eq_true rfl)⟩ rfl (Nat.le_of_ble_eq_true rfl) dX11_write_2 ?_
  refine gm_if_ne C 11 dX11_write_5 (by decide) (fun c2 => ?_) (fun c2 => ?_)
  · have hf := gm_if _ c2 hf
    refine gm_aload_n C dX11_write_11 rfl 0 rfl ?_
    refine gm_geti C (Nat.le_of_ble_eq_true rfl) rfl kc_11 (k := 32) rfl (by decide) rfl wl_872 dX11_write_12 ?_
    refine gm_bipush (v := 15) C dX11_write_15 (by decide) ?_
    refine gm_icmp_ne C 23 dX11_write_17 (by decide) (fun c3 => ?_) (fun c3 => ?_)
    · have hf := gm_if _ c3 hf
      refine gm_aload_n C dX11_write_23 rfl 0 rfl ?_
      refine gm_getr (j := 13) (u := 13) C (Nat.le_of_ble_eq_true rfl) rfl kc_11 (k := 33) rfl (by decide) rfl rfl wl_873 dX11_write_24 ?_
      refine gm_aload_n C dX11_write_27 rfl 0 rfl ?_
      refine gm_geti C (Nat.le_of_ble_eq_true rfl) rfl kc_11 (k := 32) rfl (by decide) rfl wl_872 dX11_write_28 ?_
      refine gm_iload_n C dX11_write_31 rfl 1 rfl ?_
      obtain ⟨h4, hf⟩ := gm_ck_s hf
      refine gm_iast C (Nat.le_of_ble_eq_true rfl) rfl rfl h4 dX11_write_32 ?_
      obtain ⟨S5, eS5, hf⟩ := gm_lt_s hf
      refine gm_topm eS5 ?_
      refine gm_aload_n C dX11_write_33 rfl 0 rfl ?_
      refine gm_getr (j := 14) (u := 14) C (Nat.le_of_ble_eq_true rfl) rfl kc_11 (k := 34) rfl (by decide) rfl rfl wl_874 dX11_write_34 ?_
      refine gm_aload_n C dX11_write_37 rfl 0 rfl ?_
      refine gm_geti C (Nat.le_of_ble_eq_true rfl) rfl kc_11 (k := 32) rfl (by decide) rfl wl_872 dX11_write_38 ?_
      refine gm_iload_n C dX11_write_41 rfl 2 rfl ?_
      obtain ⟨h6, hf⟩ := gm_ck_s hf
      refine gm_zast C (Nat.le_of_ble_eq_true rfl) rfl rfl h6 dX11_write_42 ?_
      obtain ⟨S7, eS7, hf⟩ := gm_lt_s hf
      refine gm_topm eS7 ?_
      refine gm_aload_n C dX11_write_43 rfl 0 rfl ?_
      refine gm_dup C dX11_write_44 rfl ?_
      refine gm_geti C (Nat.le_of_ble_eq_true rfl) rfl kc_11 (k := 32) rfl (by decide) rfl wl_872 dX11_write_45 ?_
      refine gm_iconst (v := 1) C dX11_write_48 (by decide) ?_
      refine gm_iadd C dX11_write_49 ?_
      refine gm_puti C (Nat.le_of_ble_eq_true rfl) rfl kc_11 (k := 32) rfl (by decide) rfl rfl (kc_11.2.2.2.1 32 (by decide)) rfl rfl wl_872 dX11_write_50 ?_
      obtain ⟨S8, eS8, hf⟩ := gm_lt_s hf
      refine gm_topm eS8 ?_
      refine gm_aload_n C dX11_write_53 rfl 0 rfl ?_
      refine gm_geti C (Nat.le_of_ble_eq_true rfl) rfl kc_11 (k := 32) rfl (by decide) rfl wl_872 dX11_write_54 ?_
      exact gm_iret C hr rfl dX11_write_57 hf
    · have hf := gm_it _ c3 hf
      refine gm_ldc (v := (-1000000004)) C wl_961 dX11_write_20 ?_
      exact gm_iret C hr rfl dX11_write_22 hf
  · have hf := gm_it _ c2 hf
    refine gm_ldc (v := (-1000000002)) C wl_960 dX11_write_8 ?_
    exact gm_iret C hr rfl dX11_write_10 hf
theorem dX11_tear_0 : decode cX11_tear 0 = .ok (.aload_n 0, 1) := by decide +kernel
theorem dX11_tear_1 : decode cX11_tear 1 = .ok (.getfield 185, 3) := by decide +kernel
theorem dX11_tear_4 : decode cX11_tear 4 = .ok (.aload_n 0, 1) := by decide +kernel
theorem dX11_tear_5 : decode cX11_tear 5 = .ok (.getfield 188, 3) := by decide +kernel
theorem dX11_tear_8 : decode cX11_tear 8 = .ok (.iadd, 1) := by decide +kernel
theorem dX11_tear_9 : decode cX11_tear 9 = .ok (.istore_n 1, 1) := by decide +kernel
theorem dX11_tear_10 : decode cX11_tear 10 = .ok (.aload_n 0, 1) := by decide +kernel
theorem dX11_tear_11 : decode cX11_tear 11 = .ok (.iconst 0, 1) := by decide +kernel
theorem dX11_tear_12 : decode cX11_tear 12 = .ok (.putfield 185, 3) := by decide +kernel
theorem dX11_tear_15 : decode cX11_tear 15 = .ok (.aload_n 0, 1) := by decide +kernel
theorem dX11_tear_16 : decode cX11_tear 16 = .ok (.iconst 0, 1) := by decide +kernel
theorem dX11_tear_17 : decode cX11_tear 17 = .ok (.putfield 188, 3) := by decide +kernel
theorem dX11_tear_20 : decode cX11_tear 20 = .ok (.iload_n 1, 1) := by decide +kernel
theorem dX11_tear_21 : decode cX11_tear 21 = .ok (.ireturn, 1) := by decide +kernel
def Mo_tear (S : gm_M) : Option (Int32 × gm_M) :=
  gm_lt (α := Int32) ((S.1 0 29) + (S.1 0 32)) fun x1 =>
  gm_lt (α := gm_M) (gm_ui S 0 29 0) fun S2 =>
  gm_lt (α := gm_M) (gm_ui S2 0 32 0) fun S3 =>
  some (x1, S3)
set_option maxHeartbeats 4000000 in
set_option maxRecDepth 100000 in
theorem Mo_tear_c (l : Launch) (cf : gm_C) (ad : Nat → Nat)     {S : gm_M} {r : Int32} {S'  : gm_M} (hf : Mo_tear S = some (r, S')) : gm_Met l yX11_tear cX11_tear 2 (some .int) 0 0 cf ad gm_sM 17 [.ref (ad 0)] S (some (.int r)) S' := by
  refine gm_met (by decide +kernel) (Nat.le_of_ble_eq_true rfl) ?_
  intro p e s m args below meth c C hr
  have C : gm_F p s m args meth c cf ad 17 cX11_tear 2 RX11 := C
  refine gm_lve (lv' := [(0, .ref (ad 0))]) rfl ?_
  unfold Mo_tear at hf
  refine gm_aload_n C dX11_tear_0 rfl 0 rfl ?_
  refine gm_geti C (Nat.le_of_ble_eq_true rfl) rfl kc_11 (k := 29) rfl (by decide) rfl wl_869 dX11_tear_1 ?_
  refine gm_aload_n C dX11_tear_4 rfl 0 rfl ?_
  refine gm_geti C (Nat.le_of_ble_eq_true rfl) rfl kc_11 (k := 32) rfl (by decide) rfl wl_872 dX11_tear_5 ?_
  refine gm_iadd C dX11_tear_8 ?_
  obtain ⟨x1, ex1, hf⟩ := gm_lt_s hf
  refine gm_topi ex1 ?_
  refine gm_istore_n (lv' := [(1, .int x1), (0, .ref (ad 0))]) C dX11_tear_9 rfl (by decide) rfl ?_
  refine gm_aload_n C dX11_tear_10 rfl 1 rfl ?_
  refine gm_iconst (v := 0) C dX11_tear_11 (by decide) ?_
  refine gm_puti C (Nat.le_of_ble_eq_true rfl) rfl kc_11 (k := 29) rfl (by decide) rfl rfl (kc_11.2.2.2.1 29 (by decide)) rfl rfl wl_869 dX11_tear_12 ?_
  obtain ⟨S2, eS2, hf⟩ := gm_lt_s hf
  refine gm_topm eS2 ?_
  refine gm_aload_n C dX11_tear_15 rfl 1 rfl ?_
  refine gm_iconst (v := 0) C dX11_tear_16 (by decide) ?_
  refine gm_puti C (Nat.le_of_ble_eq_true rfl) rfl kc_11 (k := 32) rfl (by decide) rfl rfl (kc_11.2.2.2.1 32 (by decide)) rfl rfl wl_872 dX11_tear_17 ?_
  obtain ⟨S3, eS3, hf⟩ := gm_lt_s hf
  refine gm_topm eS3 ?_
  refine gm_iload_n C dX11_tear_20 rfl 0 rfl ?_
  exact gm_iret C hr rfl dX11_tear_21 hf
theorem dX11_judge_0 : decode cX11_judge 0 = .ok (.iconst 0, 1) := by decide +kernel
theorem dX11_judge_1 : decode cX11_judge 1 = .ok (.istore_n 1, 1) := by decide +kernel
theorem dX11_judge_2 : decode cX11_judge 2 = .ok (.iload_n 1, 1) := by decide +kernel
theorem dX11_judge_3 : decode cX11_judge 3 = .ok (.aload_n 0, 1) := by decide +kernel
theorem dX11_judge_4 : decode cX11_judge 4 = .ok (.getfield 188, 3) := by decide +kernel
theorem dX11_judge_7 : decode cX11_judge 7 = .ok (.if_icmp .ge 30, 3) := by decide +kernel
theorem dX11_judge_10 : decode cX11_judge 10 = .ok (.aload_n 0, 1) := by decide +kernel
theorem dX11_judge_11 : decode cX11_judge 11 = .ok (.aload_n 0, 1) := by decide +kernel
theorem dX11_judge_12 : decode cX11_judge 12 = .ok (.getfield 51, 3) := by decide +kernel
theorem dX11_judge_15 : decode cX11_judge 15 = .ok (.iload_n 1, 1) := by decide +kernel
theorem dX11_judge_16 : decode cX11_judge 16 = .ok (.iaload, 1) := by decide +kernel
theorem dX11_judge_17 : decode cX11_judge 17 = .ok (.invokevirtual 224, 3) := by decide +kernel
theorem dX11_judge_20 : decode cX11_judge 20 = .ok (.aload_n 0, 1) := by decide +kernel
theorem dX11_judge_21 : decode cX11_judge 21 = .ok (.getfield 54, 3) := by decide +kernel
theorem dX11_judge_24 : decode cX11_judge 24 = .ok (.iload_n 1, 1) := by decide +kernel
theorem dX11_judge_25 : decode cX11_judge 25 = .ok (.baload, 1) := by decide +kernel
theorem dX11_judge_26 : decode cX11_judge 26 = .ok (.if_icmp .eq 5, 3) := by decide +kernel
theorem dX11_judge_29 : decode cX11_judge 29 = .ok (.iload_n 1, 1) := by decide +kernel
theorem dX11_judge_30 : decode cX11_judge 30 = .ok (.ireturn, 1) := by decide +kernel
theorem dX11_judge_31 : decode cX11_judge 31 = .ok (.iinc 1 1, 3) := by decide +kernel
theorem dX11_judge_34 : decode cX11_judge 34 = .ok (.goto (-32), 3) := by decide +kernel
theorem dX11_judge_37 : decode cX11_judge 37 = .ok (.iconst (-1), 1) := by decide +kernel
theorem dX11_judge_38 : decode cX11_judge 38 = .ok (.ireturn, 1) := by decide +kernel
def Mo_judge_L2_b (fl : Nat) (S : gm_M) (rec : Int32 → Option Int32) (y1 : Int32) : Option Int32 :=
  if S.1 0 32 ≤ y1 then (
    some ((-1))
  ) else (
    gm_ck (y1) 15 <|
    gm_bp1 (Mo_isLucky fl (S.1 13 y1.toNatClampNeg) S) fun v4 =>
    gm_ck (y1) 15 <|
    if v4 = S.1 14 y1.toNatClampNeg then (
      gm_lt (α := Int32) (y1 + 1) fun x7 =>
      rec x7
    ) else (
      some (y1)
    )
  )
def Mo_judge_L2 (fl : Nat) (S : gm_M) : Nat → Int32 → Option Int32
  | 0 => fun _ => none
  | n + 1 => Mo_judge_L2_b fl S (Mo_judge_L2 fl S n)
def Mo_judge (fl : Nat) (S : gm_M) : Option Int32 :=
  Mo_judge_L2 fl S fl 0
set_option maxHeartbeats 4000000 in
set_option maxRecDepth 100000 in
theorem Mo_judge_c (l : Launch) (cf : gm_C) (ad : Nat → Nat) {fl : Nat}    {S : gm_M} {r : Int32}  (hf : Mo_judge fl S = some r) : gm_Met l yX11_judge cX11_judge 2 (some .int) 6 141 cf ad gm_sM 17 [.ref (ad 0)] S (some (.int r)) S := by
  refine gm_met (by decide +kernel) (Nat.le_of_ble_eq_true rfl) ?_
  intro p e s m args below meth c C hr
  have C : gm_F p s m args meth c cf ad 17 cX11_judge 2 RX11 := C
  refine gm_lve (lv' := [(0, .ref (ad 0))]) rfl ?_
  unfold Mo_judge at hf
  refine gm_iconst (v := 0) C dX11_judge_0 (by decide) ?_
  refine gm_istore_n (lv' := [(1, .int 0), (0, .ref (ad 0))]) C dX11_judge_1 rfl (by decide) rfl ?_
  have L2 : ∀ (n : Nat) (y1 : Int32), Mo_judge_L2 fl S n y1 = some r → gm_G p l e { frames := 6, cells := 0, slots := 0, locals := 141 } s m args below meth c (MQ below (gm_Q cf ad gm_sM 17 (some (.int r)) S) args s 0 0 (gm_A ad 17)) cf ad gm_sM 17 2 S 2 [(0, .ref (ad 0)), (1, .int y1)] [] := by
    intro n
    induction n with
    | zero => intro y1 hf; cases (show (none : Option _) = some _ from hf)
    | succ n ih =>
      intro y1 hf
      have hf : Mo_judge_L2_b fl S (Mo_judge_L2 fl S n) y1 = some r := hf
      unfold Mo_judge_L2_b at hf
      refine gm_iload_n C dX11_judge_2 rfl 1 rfl ?_
      refine gm_aload_n C dX11_judge_3 rfl 0 rfl ?_
      refine gm_geti C (Nat.le_of_ble_eq_true rfl) rfl kc_11 (k := 32) rfl (by decide) rfl wl_872 dX11_judge_4 ?_
      refine gm_icmp_ge C 37 dX11_judge_7 (by decide) (fun c2 => ?_) (fun c2 => ?_)
      · have hf := gm_it _ c2 hf
        refine gm_iconst (v := (-1)) C dX11_judge_37 (by decide) ?_
        exact gm_iretK C hr rfl dX11_judge_38 hf
      · have hf := gm_if _ c2 hf
        refine gm_aload_n C dX11_judge_10 rfl 0 rfl ?_
        refine gm_aload_n C dX11_judge_11 rfl 0 rfl ?_
        refine gm_getr (j := 13) (u := 13) C (Nat.le_of_ble_eq_true rfl) rfl kc_11 (k := 33) rfl (by decide) rfl rfl wl_873 dX11_judge_12 ?_
        refine gm_iload_n C dX11_judge_15 rfl 1 rfl ?_
        obtain ⟨h3, hf⟩ := gm_ck_s hf
        refine gm_iald C (Nat.le_of_ble_eq_true rfl) rfl rfl h3 dX11_judge_16 ?_
        obtain ⟨v4, ev4, hf⟩ := gm_bp1_s hf
        refine gm_callVi (As := [.int (S.1 13 y1.toNatClampNeg)]) C (Mo_isLucky_c l cf ad ev4) (Nat.le_of_ble_eq_true rfl) rfl kc_11 wy_Mo_isLucky rfl wl_1086 rfl ⟨(Nat.le_of_ble_eq_true rfl), (Nat.le_of_ble_eq_true rfl)⟩ rfl (Nat.le_of_ble_eq_true rfl) dX11_judge_17 ?_
        refine gm_aload_n C dX11_judge_20 rfl 0 rfl ?_
        refine gm_getr (j := 14) (u := 14) C (Nat.le_of_ble_eq_true rfl) rfl kc_11 (k := 34) rfl (by decide) rfl rfl wl_874 dX11_judge_21 ?_
        refine gm_iload_n C dX11_judge_24 rfl 1 rfl ?_
        obtain ⟨h5, hf⟩ := gm_ck_s hf
        refine gm_zald C (Nat.le_of_ble_eq_true rfl) rfl rfl h5 dX11_judge_25 ?_
        refine gm_icmp_eq C 31 dX11_judge_26 (by decide) (fun c6 => ?_) (fun c6 => ?_)
        · have hf := gm_it _ c6 hf
          obtain ⟨x7, ex7, hf⟩ := gm_lt_s hf
          refine gm_iinc (v := x7) (lv' := [(1, .int x7), (0, .ref (ad 0))]) (j := 1) C dX11_judge_31 rfl (by rw [ex7]; rfl) (by decide) rfl ?_
          refine gm_goto C 2 dX11_judge_34 (by decide) ?_
          exact gm_lvp [1, 0] rfl (ih _ hf)
        · have hf := gm_if _ c6 hf
          refine gm_iload_n C dX11_judge_29 rfl 1 rfl ?_
          exact gm_iretK C hr rfl dX11_judge_30 hf
  exact gm_lvp [1, 0] rfl (L2 fl _ hf)
theorem dX11_seed_0 : decode cX11_seed 0 = .ok (.iload_n 1, 1) := by decide +kernel
theorem dX11_seed_1 : decode cX11_seed 1 = .ok (.ifCond .ge 6, 3) := by decide +kernel
theorem dX11_seed_4 : decode cX11_seed 4 = .ok (.ldc 96, 2) := by decide +kernel
theorem dX11_seed_6 : decode cX11_seed 6 = .ok (.ireturn, 1) := by decide +kernel
theorem dX11_seed_7 : decode cX11_seed 7 = .ok (.aload_n 0, 1) := by decide +kernel
theorem dX11_seed_8 : decode cX11_seed 8 = .ok (.getfield 283, 3) := by decide +kernel
theorem dX11_seed_11 : decode cX11_seed 11 = .ok (.istore_n 2, 1) := by decide +kernel
theorem dX11_seed_12 : decode cX11_seed 12 = .ok (.aload_n 0, 1) := by decide +kernel
theorem dX11_seed_13 : decode cX11_seed 13 = .ok (.iload_n 1, 1) := by decide +kernel
theorem dX11_seed_14 : decode cX11_seed 14 = .ok (.putfield 283, 3) := by decide +kernel
theorem dX11_seed_17 : decode cX11_seed 17 = .ok (.iload_n 2, 1) := by decide +kernel
theorem dX11_seed_18 : decode cX11_seed 18 = .ok (.ireturn, 1) := by decide +kernel
def Mo_seed (a0 : Int32) (S : gm_M) : Option (Int32 × gm_M) :=
  if (0 : Int32) ≤ a0 then (
    gm_lt (α := Int32) (S.1 0 7) fun x2 =>
    gm_lt (α := gm_M) (gm_ui S 0 7 a0) fun S3 =>
    some (x2, S3)
  ) else (
    some ((-1000000002), S)
  )
set_option maxHeartbeats 4000000 in
set_option maxRecDepth 100000 in
theorem Mo_seed_c (l : Launch) (cf : gm_C) (ad : Nat → Nat)    {a0 : Int32} {S : gm_M} {r : Int32} {S'  : gm_M} (hf : Mo_seed a0 S = some (r, S')) : gm_Met l yX11_seed cX11_seed 3 (some .int) 0 0 cf ad gm_sM 17 [.ref (ad 0), .int a0] S (some (.int r)) S' := by
  refine gm_met (by decide +kernel) (Nat.le_of_ble_eq_true rfl) ?_
  intro p e s m args below meth c C hr
  have C : gm_F p s m args meth c cf ad 17 cX11_seed 3 RX11 := C
  refine gm_lve (lv' := [(0, .ref (ad 0)), (1, .int a0)]) rfl ?_
  unfold Mo_seed at hf
  refine gm_iload_n C dX11_seed_0 rfl 1 rfl ?_
  refine gm_if_ge C 7 dX11_seed_1 (by decide) (fun c1 => ?_) (fun c1 => ?_)
  · have hf := gm_it _ c1 hf
    refine gm_aload_n C dX11_seed_7 rfl 0 rfl ?_
    refine gm_geti C (Nat.le_of_ble_eq_true rfl) rfl kc_11 (k := 7) rfl (by decide) rfl wl_847 dX11_seed_8 ?_
    obtain ⟨x2, ex2, hf⟩ := gm_lt_s hf
    refine gm_topi ex2 ?_
    refine gm_istore_n (lv' := [(2, .int x2), (0, .ref (ad 0)), (1, .int a0)]) C dX11_seed_11 rfl (by decide) rfl ?_
    refine gm_aload_n C dX11_seed_12 rfl 1 rfl ?_
    refine gm_iload_n C dX11_seed_13 rfl 2 rfl ?_
    refine gm_puti C (Nat.le_of_ble_eq_true rfl) rfl kc_11 (k := 7) rfl (by decide) rfl rfl (kc_11.2.2.2.1 7 (by decide)) rfl rfl wl_847 dX11_seed_14 ?_
    obtain ⟨S3, eS3, hf⟩ := gm_lt_s hf
    refine gm_topm eS3 ?_
    refine gm_iload_n C dX11_seed_17 rfl 0 rfl ?_
    exact gm_iret C hr rfl dX11_seed_18 hf
  · have hf := gm_if _ c1 hf
    refine gm_ldc (v := (-1000000002)) C wl_960 dX11_seed_4 ?_
    exact gm_iret C hr rfl dX11_seed_6 hf
theorem dX11_keep_0 : decode cX11_keep 0 = .ok (.iload_n 1, 1) := by decide +kernel
theorem dX11_keep_1 : decode cX11_keep 1 = .ok (.i2l, 1) := by decide +kernel
theorem dX11_keep_2 : decode cX11_keep 2 = .ok (.lconst 0, 1) := by decide +kernel
theorem dX11_keep_3 : decode cX11_keep 3 = .ok (.lconst 1, 1) := by decide +kernel
theorem dX11_keep_4 : decode cX11_keep 4 = .ok (.invokestatic 69, 3) := by decide +kernel
theorem dX11_keep_7 : decode cX11_keep 7 = .ok (.ifCond .ne 6, 3) := by decide +kernel
theorem dX11_keep_10 : decode cX11_keep 10 = .ok (.ldc 251, 2) := by decide +kernel
theorem dX11_keep_12 : decode cX11_keep 12 = .ok (.ireturn, 1) := by decide +kernel
theorem dX11_keep_13 : decode cX11_keep 13 = .ok (.iconst 0, 1) := by decide +kernel
theorem dX11_keep_14 : decode cX11_keep 14 = .ok (.istore_n 2, 1) := by decide +kernel
theorem dX11_keep_15 : decode cX11_keep 15 = .ok (.iload_n 2, 1) := by decide +kernel
theorem dX11_keep_16 : decode cX11_keep 16 = .ok (.bipush 42, 2) := by decide +kernel
theorem dX11_keep_18 : decode cX11_keep 18 = .ok (.if_icmp .ge 26, 3) := by decide +kernel
theorem dX11_keep_21 : decode cX11_keep 21 = .ok (.aload_n 0, 1) := by decide +kernel
theorem dX11_keep_22 : decode cX11_keep 22 = .ok (.getfield 57, 3) := by decide +kernel
theorem dX11_keep_25 : decode cX11_keep 25 = .ok (.bipush 43, 2) := by decide +kernel
theorem dX11_keep_27 : decode cX11_keep 27 = .ok (.iload_n 1, 1) := by decide +kernel
theorem dX11_keep_28 : decode cX11_keep 28 = .ok (.imul, 1) := by decide +kernel
theorem dX11_keep_29 : decode cX11_keep 29 = .ok (.iload_n 2, 1) := by decide +kernel
theorem dX11_keep_30 : decode cX11_keep 30 = .ok (.iadd, 1) := by decide +kernel
theorem dX11_keep_31 : decode cX11_keep 31 = .ok (.aload_n 0, 1) := by decide +kernel
theorem dX11_keep_32 : decode cX11_keep 32 = .ok (.getfield 13, 3) := by decide +kernel
theorem dX11_keep_35 : decode cX11_keep 35 = .ok (.iload_n 2, 1) := by decide +kernel
theorem dX11_keep_36 : decode cX11_keep 36 = .ok (.iaload, 1) := by decide +kernel
theorem dX11_keep_37 : decode cX11_keep 37 = .ok (.iastore, 1) := by decide +kernel
theorem dX11_keep_38 : decode cX11_keep 38 = .ok (.iinc 2 1, 3) := by decide +kernel
theorem dX11_keep_41 : decode cX11_keep 41 = .ok (.goto (-26), 3) := by decide +kernel
theorem dX11_keep_44 : decode cX11_keep 44 = .ok (.aload_n 0, 1) := by decide +kernel
theorem dX11_keep_45 : decode cX11_keep 45 = .ok (.getfield 57, 3) := by decide +kernel
theorem dX11_keep_48 : decode cX11_keep 48 = .ok (.bipush 43, 2) := by decide +kernel
theorem dX11_keep_50 : decode cX11_keep 50 = .ok (.iload_n 1, 1) := by decide +kernel
theorem dX11_keep_51 : decode cX11_keep 51 = .ok (.imul, 1) := by decide +kernel
theorem dX11_keep_52 : decode cX11_keep 52 = .ok (.bipush 42, 2) := by decide +kernel
theorem dX11_keep_54 : decode cX11_keep 54 = .ok (.iadd, 1) := by decide +kernel
theorem dX11_keep_55 : decode cX11_keep 55 = .ok (.aload_n 0, 1) := by decide +kernel
theorem dX11_keep_56 : decode cX11_keep 56 = .ok (.getfield 283, 3) := by decide +kernel
theorem dX11_keep_59 : decode cX11_keep 59 = .ok (.iastore, 1) := by decide +kernel
theorem dX11_keep_60 : decode cX11_keep 60 = .ok (.aload_n 0, 1) := by decide +kernel
theorem dX11_keep_61 : decode cX11_keep 61 = .ok (.getfield 60, 3) := by decide +kernel
theorem dX11_keep_64 : decode cX11_keep 64 = .ok (.iload_n 1, 1) := by decide +kernel
theorem dX11_keep_65 : decode cX11_keep 65 = .ok (.iconst 1, 1) := by decide +kernel
theorem dX11_keep_66 : decode cX11_keep 66 = .ok (.bastore, 1) := by decide +kernel
theorem dX11_keep_67 : decode cX11_keep 67 = .ok (.aload_n 0, 1) := by decide +kernel
theorem dX11_keep_68 : decode cX11_keep 68 = .ok (.iconst 0, 1) := by decide +kernel
theorem dX11_keep_69 : decode cX11_keep 69 = .ok (.putfield 191, 3) := by decide +kernel
theorem dX11_keep_72 : decode cX11_keep 72 = .ok (.iconst 1, 1) := by decide +kernel
theorem dX11_keep_73 : decode cX11_keep 73 = .ok (.ireturn, 1) := by decide +kernel
def Mo_keep_L15_b (a0 : Int32) (rec : Int32 → gm_M → Option (gm_M)) (y3 : Int32) (S4 : gm_M) : Option (gm_M) :=
  if (42 : Int32) ≤ y3 then (
    some (S4)
  ) else (
    gm_ck (y3) 42 <|
    gm_ck ((43 * a0) + y3) 86 <|
    gm_lt (α := gm_M) (gm_ui S4 15 (((43 * a0) + y3).toNatClampNeg) (S4.1 2 y3.toNatClampNeg)) fun S9 =>
    gm_lt (α := Int32) (y3 + 1) fun x10 =>
    rec x10 S9
  )
def Mo_keep_L15 (a0 : Int32) : Nat → Int32 → gm_M → Option (gm_M)
  | 0 => fun _ _ => none
  | n + 1 => Mo_keep_L15_b a0 (Mo_keep_L15 a0 n)
def Mo_keep (fl : Nat) (a0 : Int32) (S : gm_M) : Option (Int32 × gm_M) :=
  gm_bp1 (Mo_in ((a0 : Int32).toInt64) 0 1) fun v1 =>
  if v1 = 0 then (
    some ((-1000000001), S)
  ) else (
    gm_bp1 (Mo_keep_L15 a0 fl 0 S) fun S5 =>
    gm_ck ((43 * a0) + 42) 86 <|
    gm_lt (α := gm_M) (gm_ui S5 15 (((43 * a0) + 42).toNatClampNeg) (S5.1 0 7)) fun S12 =>
    gm_ck (a0) 2 <|
    gm_lt (α := gm_M) (gm_ui S12 16 (a0.toNatClampNeg) (vp_nar .boolean 1)) fun S14 =>
    gm_lt (α := gm_M) (gm_ui S14 0 27 0) fun S15 =>
    some (1, S15)
  )
set_option maxHeartbeats 4000000 in
set_option maxRecDepth 100000 in
theorem Mo_keep_c (l : Launch) (cf : gm_C) (ad : Nat → Nat) {fl : Nat}   {a0 : Int32} {S : gm_M} {r : Int32} {S'  : gm_M} (hf : Mo_keep fl a0 S = some (r, S')) : gm_Met l yX11_keep cX11_keep 3 (some .int) 1 25 cf ad gm_sM 17 [.ref (ad 0), .int a0] S (some (.int r)) S' := by
  refine gm_met (by decide +kernel) (Nat.le_of_ble_eq_true rfl) ?_
  intro p e s m args below meth c C hr
  have C : gm_F p s m args meth c cf ad 17 cX11_keep 3 RX11 := C
  refine gm_lve (lv' := [(0, .ref (ad 0)), (1, .int a0)]) rfl ?_
  unfold Mo_keep at hf
  refine gm_iload_n C dX11_keep_0 rfl 1 rfl ?_
  refine gm_i2l C dX11_keep_1 rfl ?_
  refine gm_lconst (v := 0) C dX11_keep_2 (by decide) ?_
  refine gm_lconst (v := 1) C dX11_keep_3 (by decide) ?_
  obtain ⟨v1, ev1, hf⟩ := gm_bp1_s hf
  refine gm_callSi (As := [.long ((a0 : Int32).toInt64), .long 0, .long 1]) C (Mo_in_c l cf ad ev1 (S := S)) wy_Mo_in wl_957 rfl ⟨(Nat.le_of_ble_eq_true rfl), (Nat.le_of_ble_eq_true rfl)⟩ rfl (Nat.le_of_ble_eq_true rfl) dX11_keep_4 ?_
  refine gm_if_ne C 13 dX11_keep_7 (by decide) (fun c2 => ?_) (fun c2 => ?_)
  · have hf := gm_if _ c2 hf
    refine gm_iconst (v := 0) C dX11_keep_13 (by decide) ?_
    refine gm_istore_n (lv' := [(2, .int 0), (0, .ref (ad 0)), (1, .int a0)]) C dX11_keep_14 rfl (by decide) rfl ?_
    have L15 : ∀ (n : Nat) (y3 : Int32) (S4 : gm_M) (S5 : gm_M), Mo_keep_L15 a0 n y3 S4 = some (S5) → gm_G p l e { frames := 1, cells := 0, slots := 0, locals := 25 } s m args below meth c (MQ below (gm_Q cf ad gm_sM 17 (some (.int r)) S') args s 0 0 (gm_A ad 17)) cf ad gm_sM 17 3 S5 44 [(0, .ref (ad 0)), (1, .int a0)] [] → gm_G p l e { frames := 1, cells := 0, slots := 0, locals := 25 } s m args below meth c (MQ below (gm_Q cf ad gm_sM 17 (some (.int r)) S') args s 0 0 (gm_A ad 17)) cf ad gm_sM 17 3 S4 15 [(0, .ref (ad 0)), (1, .int a0), (2, .int y3)] [] := by
      intro n
      induction n with
      | zero => intro y3 S4 S5 hf K; cases (show (none : Option _) = some _ from hf)
      | succ n ih =>
        intro y3 S4 S5 hf K
        have hf : Mo_keep_L15_b a0 (Mo_keep_L15 a0 n) y3 S4 = some (S5) := hf
        unfold Mo_keep_L15_b at hf
        refine gm_iload_n C dX11_keep_15 rfl 2 rfl ?_
        refine gm_bipush (v := 42) C dX11_keep_16 (by decide) ?_
        refine gm_icmp_ge C 44 dX11_keep_18 (by decide) (fun c6 => ?_) (fun c6 => ?_)
        · have hf := gm_it _ c6 hf
          cases hf
          exact gm_lvp [0, 1] rfl K
        · have hf := gm_if _ c6 hf
          refine gm_aload_n C dX11_keep_21 rfl 0 rfl ?_
          refine gm_getr (j := 15) (u := 15) C (Nat.le_of_ble_eq_true rfl) rfl kc_11 (k := 35) rfl (by decide) rfl rfl wl_875 dX11_keep_22 ?_
          refine gm_bipush (v := 43) C dX11_keep_25 (by decide) ?_
          refine gm_iload_n C dX11_keep_27 rfl 1 rfl ?_
          refine gm_imul C dX11_keep_28 ?_
          refine gm_iload_n C dX11_keep_29 rfl 2 rfl ?_
          refine gm_iadd C dX11_keep_30 ?_
          refine gm_aload_n C dX11_keep_31 rfl 0 rfl ?_
          refine gm_getr (j := 2) (u := 2) C (Nat.le_of_ble_eq_true rfl) rfl kc_11 (k := 6) rfl (by decide) rfl rfl wl_846 dX11_keep_32 ?_
          refine gm_iload_n C dX11_keep_35 rfl 2 rfl ?_
          obtain ⟨h7, hf⟩ := gm_ck_s hf
          refine gm_iald C (Nat.le_of_ble_eq_true rfl) rfl rfl h7 dX11_keep_36 ?_
          obtain ⟨h8, hf⟩ := gm_ck_s hf
          refine gm_iast C (Nat.le_of_ble_eq_true rfl) rfl rfl h8 dX11_keep_37 ?_
          obtain ⟨S9, eS9, hf⟩ := gm_lt_s hf
          refine gm_topm eS9 ?_
          obtain ⟨x10, ex10, hf⟩ := gm_lt_s hf
          refine gm_iinc (v := x10) (lv' := [(2, .int x10), (0, .ref (ad 0)), (1, .int a0)]) (j := 2) C dX11_keep_38 rfl (by rw [ex10]; rfl) (by decide) rfl ?_
          refine gm_goto C 15 dX11_keep_41 (by decide) ?_
          exact gm_lvp [1, 2, 0] rfl (ih _ _ _ hf K)
    obtain ⟨S5, hx, hf⟩ := gm_bp1_s hf
    refine gm_lvp [1, 2, 0] rfl (L15 fl _ _ _ hx ?_)
    refine gm_aload_n C dX11_keep_44 rfl 0 rfl ?_
    refine gm_getr (j := 15) (u := 15) C (Nat.le_of_ble_eq_true rfl) rfl kc_11 (k := 35) rfl (by decide) rfl rfl wl_875 dX11_keep_45 ?_
    refine gm_bipush (v := 43) C dX11_keep_48 (by decide) ?_
    refine gm_iload_n C dX11_keep_50 rfl 1 rfl ?_
    refine gm_imul C dX11_keep_51 ?_
    refine gm_bipush (v := 42) C dX11_keep_52 (by decide) ?_
    refine gm_iadd C dX11_keep_54 ?_
    refine gm_aload_n C dX11_keep_55 rfl 0 rfl ?_
    refine gm_geti C (Nat.le_of_ble_eq_true rfl) rfl kc_11 (k := 7) rfl (by decide) rfl wl_847 dX11_keep_56 ?_
    obtain ⟨h11, hf⟩ := gm_ck_s hf
    refine gm_iast C (Nat.le_of_ble_eq_true rfl) rfl rfl h11 dX11_keep_59 ?_
    obtain ⟨S12, eS12, hf⟩ := gm_lt_s hf
    refine gm_topm eS12 ?_
    refine gm_aload_n C dX11_keep_60 rfl 0 rfl ?_
    refine gm_getr (j := 16) (u := 16) C (Nat.le_of_ble_eq_true rfl) rfl kc_11 (k := 36) rfl (by decide) rfl rfl wl_876 dX11_keep_61 ?_
    refine gm_iload_n C dX11_keep_64 rfl 1 rfl ?_
    refine gm_iconst (v := 1) C dX11_keep_65 (by decide) ?_
    obtain ⟨h13, hf⟩ := gm_ck_s hf
    refine gm_zast C (Nat.le_of_ble_eq_true rfl) rfl rfl h13 dX11_keep_66 ?_
    obtain ⟨S14, eS14, hf⟩ := gm_lt_s hf
    refine gm_topm eS14 ?_
    refine gm_aload_n C dX11_keep_67 rfl 0 rfl ?_
    refine gm_iconst (v := 0) C dX11_keep_68 (by decide) ?_
    refine gm_puti C (Nat.le_of_ble_eq_true rfl) rfl kc_11 (k := 27) rfl (by decide) rfl rfl (kc_11.2.2.2.1 27 (by decide)) rfl rfl wl_867 dX11_keep_69 ?_
    obtain ⟨S15, eS15, hf⟩ := gm_lt_s hf
    refine gm_topm eS15 ?_
    refine gm_iconst (v := 1) C dX11_keep_72 (by decide) ?_
    exact gm_iret C hr rfl dX11_keep_73 hf
  · have hf := gm_it _ c2 hf
    refine gm_ldc (v := (-1000000001)) C wl_1134 dX11_keep_10 ?_
    exact gm_iret C hr rfl dX11_keep_12 hf
