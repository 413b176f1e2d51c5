theorem dX10_roll_0 : decode cX10_roll 0 = .ok (.aload_n 0, 1) := by decide +kernel
theorem dX10_roll_1 : decode cX10_roll 1 = .ok (.getfield 19, 3) := by decide +kernel
theorem dX10_roll_4 : decode cX10_roll 4 = .ok (.iload_n 1, 1) := by decide +kernel
theorem dX10_roll_5 : decode cX10_roll 5 = .ok (.invokevirtual 164, 3) := by decide +kernel
theorem dX10_roll_8 : decode cX10_roll 8 = .ok (.ifCond .ne 6, 3) := by decide +kernel
theorem dX10_roll_11 : decode cX10_roll 11 = .ok (.ldc 143, 2) := by decide +kernel
theorem dX10_roll_13 : decode cX10_roll 13 = .ok (.ireturn, 1) := by decide +kernel
theorem dX10_roll_14 : decode cX10_roll 14 = .ok (.aload_n 0, 1) := by decide +kernel
theorem dX10_roll_15 : decode cX10_roll 15 = .ok (.getfield 19, 3) := by decide +kernel
theorem dX10_roll_18 : decode cX10_roll 18 = .ok (.iload_n 2, 1) := by decide +kernel
theorem dX10_roll_19 : decode cX10_roll 19 = .ok (.invokevirtual 192, 3) := by decide +kernel
theorem dX10_roll_22 : decode cX10_roll 22 = .ok (.ifCond .eq 14, 3) := by decide +kernel
theorem dX10_roll_25 : decode cX10_roll 25 = .ok (.iload_n 3, 1) := by decide +kernel
theorem dX10_roll_26 : decode cX10_roll 26 = .ok (.ifCond .lt 10, 3) := by decide +kernel
theorem dX10_roll_29 : decode cX10_roll 29 = .ok (.iload_n 3, 1) := by decide +kernel
theorem dX10_roll_30 : decode cX10_roll 30 = .ok (.sipush 200, 3) := by decide +kernel
theorem dX10_roll_33 : decode cX10_roll 33 = .ok (.if_icmp .le 6, 3) := by decide +kernel
theorem dX10_roll_36 : decode cX10_roll 36 = .ok (.ldc 62, 2) := by decide +kernel
theorem dX10_roll_38 : decode cX10_roll 38 = .ok (.ireturn, 1) := by decide +kernel
theorem dX10_roll_39 : decode cX10_roll 39 = .ok (.aload_n 0, 1) := by decide +kernel
theorem dX10_roll_40 : decode cX10_roll 40 = .ok (.getfield 33, 3) := by decide +kernel
theorem dX10_roll_43 : decode cX10_roll 43 = .ok (.aload_n 0, 1) := by decide +kernel
theorem dX10_roll_44 : decode cX10_roll 44 = .ok (.getfield 19, 3) := by decide +kernel
theorem dX10_roll_47 : decode cX10_roll 47 = .ok (.invokevirtual 202, 3) := by decide +kernel
theorem dX10_roll_50 : decode cX10_roll 50 = .ok (.aload_n 0, 1) := by decide +kernel
theorem dX10_roll_51 : decode cX10_roll 51 = .ok (.getfield 19, 3) := by decide +kernel
theorem dX10_roll_54 : decode cX10_roll 54 = .ok (.iload_n 1, 1) := by decide +kernel
theorem dX10_roll_55 : decode cX10_roll 55 = .ok (.invokevirtual 170, 3) := by decide +kernel
theorem dX10_roll_58 : decode cX10_roll 58 = .ok (.istore 4, 2) := by decide +kernel
theorem dX10_roll_60 : decode cX10_roll 60 = .ok (.aload_n 0, 1) := by decide +kernel
theorem dX10_roll_61 : decode cX10_roll 61 = .ok (.getfield 19, 3) := by decide +kernel
theorem dX10_roll_64 : decode cX10_roll 64 = .ok (.iload_n 1, 1) := by decide +kernel
theorem dX10_roll_65 : decode cX10_roll 65 = .ok (.iload_n 2, 1) := by decide +kernel
theorem dX10_roll_66 : decode cX10_roll 66 = .ok (.iload_n 3, 1) := by decide +kernel
theorem dX10_roll_67 : decode cX10_roll 67 = .ok (.invokevirtual 221, 3) := by decide +kernel
theorem dX10_roll_70 : decode cX10_roll 70 = .ok (.iload 4, 2) := by decide +kernel
theorem dX10_roll_72 : decode cX10_roll 72 = .ok (.ireturn, 1) := by decide +kernel
def Lt_roll (fl : Nat) (a0 : Int32) (a1 : Int32) (a2 : Int32) (S : gm_M) : Option (Int32 × gm_M) :=
  gm_bp1 (Tr_hasRoll 8 a0 S) fun v1 =>
  if v1 = 0 then (
    some ((-1000000001), S)
  ) else (
    gm_bp1 (Tr_hasNumber fl 8 a1 S) fun v3 =>
    if v3 = 0 then (
      some ((-1000000002), S)
    ) else (
      if a2 < 0 then (
        some ((-1000000002), S)
      ) else (
        if a2 ≤ 200 then (
          gm_bp1 (Ps_remember S) fun S7 =>
          gm_bp1 (Tr_ticketsLeft 8 a0 S7) fun v8 =>
          gm_bp1 (Tr_putRoll 8 a0 a1 a2 S7) fun S9 =>
          some (v8, S9)
        ) else (
          some ((-1000000002), S)
        )
      )
    )
  )
set_option maxHeartbeats 4000000 in
set_option maxRecDepth 100000 in
theorem Lt_roll_c (l : Launch) (cf : gm_C) (ad : Nat → Nat) {fl : Nat}   {a0 : Int32} {a1 : Int32} {a2 : Int32} {S : gm_M} {r : Int32} {S'  : gm_M} (hf : Lt_roll fl a0 a1 a2 S = some (r, S')) : gm_Met l yX10_roll cX10_roll 5 (some .int) 3 82 cf ad gm_sC 106 [.ref (ad 0), .int a0, .int a1, .int a2] S (some (.int r)) S' := by
  refine gm_met (by decide +kernel) (Nat.le_of_ble_eq_true rfl) ?_
  intro p e s m args below meth c C hr
  have C : gm_F p s m args meth c cf ad 106 cX10_roll 5 RX10 := C
  refine gm_lve (lv' := [(0, .ref (ad 0)), (1, .int a0), (2, .int a1), (3, .int a2)]) rfl ?_
  unfold Lt_roll at hf
  refine gm_aload_n C dX10_roll_0 rfl 0 rfl ?_
  refine gm_getr (j := 8) (u := 8) C (Nat.le_of_ble_eq_true rfl) rfl kc_10 (k := 1) rfl (by decide) rfl rfl wl_329 dX10_roll_1 ?_
  refine gm_iload_n C dX10_roll_4 rfl 1 rfl ?_
  obtain ⟨v1, ev1, hf⟩ := gm_bp1_s hf
  refine gm_callVi (As := [.int a0]) C (Tr_hasRoll_c l cf ad gm_tr_8 ev1) (Nat.le_of_ble_eq_true rfl) rfl kc_9 wy_Tr_hasRoll rfl wl_630 rfl ⟨(Nat.le_of_ble_eq_true rfl), (Nat.le_of_ble_eq_true rfl)⟩ rfl (Nat.le_of_ble_eq_true rfl) dX10_roll_5 ?_
  refine gm_if_ne C 14 dX10_roll_8 (by decide) (fun c2 => ?_) (fun c2 => ?_)
  · have hf := gm_if _ c2 hf
    refine gm_aload_n C dX10_roll_14 rfl 0 rfl ?_
    refine gm_getr (j := 8) (u := 8) C (Nat.le_of_ble_eq_true rfl) rfl kc_10 (k := 1) rfl (by decide) rfl rfl wl_329 dX10_roll_15 ?_
    refine gm_iload_n C dX10_roll_18 rfl 2 rfl ?_
    obtain ⟨v3, ev3, hf⟩ := gm_bp1_s hf
    refine gm_callVi (As := [.int a1]) C (Tr_hasNumber_c l cf ad gm_tr_8 ev3) (Nat.le_of_ble_eq_true rfl) rfl kc_9 wy_Tr_hasNumber rfl wl_660 rfl ⟨(Nat.le_of_ble_eq_true rfl), (Nat.le_of_ble_eq_true rfl)⟩ rfl (Nat.le_of_ble_eq_true rfl) dX10_roll_19 ?_
    refine gm_if_eq C 36 dX10_roll_22 (by decide) (fun c4 => ?_) (fun c4 => ?_)
    · have hf := gm_it _ c4 hf
      refine gm_ldc (v := (-1000000002)) C wl_360 dX10_roll_36 ?_
      exact gm_iret C hr rfl dX10_roll_38 hf
    · have hf := gm_if _ c4 hf
      refine gm_iload_n C dX10_roll_25 rfl 3 rfl ?_
      refine gm_if_lt C 36 dX10_roll_26 (by decide) (fun c5 => ?_) (fun c5 => ?_)
      · have hf := gm_it _ c5 hf
        refine gm_ldc (v := (-1000000002)) C wl_360 dX10_roll_36 ?_
        exact gm_iret C hr rfl dX10_roll_38 hf
      · have hf := gm_if _ c5 hf
        refine gm_iload_n C dX10_roll_29 rfl 3 rfl ?_
        refine gm_sipush (v := 200) C dX10_roll_30 (by decide) ?_
        refine gm_icmp_le C 39 dX10_roll_33 (by decide) (fun c6 => ?_) (fun c6 => ?_)
        · have hf := gm_it _ c6 hf
          refine gm_aload_n C dX10_roll_39 rfl 0 rfl ?_
          refine gm_getr (j := 22) (u := 22) C (Nat.le_of_ble_eq_true rfl) rfl kc_10 (k := 3) rfl (by decide) rfl rfl wl_331 dX10_roll_40 ?_
          refine gm_aload_n C dX10_roll_43 rfl 0 rfl ?_
          refine gm_getr (j := 8) (u := 8) C (Nat.le_of_ble_eq_true rfl) rfl kc_10 (k := 1) rfl (by decide) rfl rfl wl_329 dX10_roll_44 ?_
          obtain ⟨S7, eS7, hf⟩ := gm_bp1_s hf
          refine gm_callVv (As := [.ref (ad 8)]) C (Ps_remember_c l cf ad eS7) (Nat.le_of_ble_eq_true rfl) rfl kc_4 wy_Ps_remember rfl wl_673 rfl ⟨(Nat.le_of_ble_eq_true rfl), (Nat.le_of_ble_eq_true rfl)⟩ rfl (Nat.le_of_ble_eq_true rfl) dX10_roll_47 ?_
          refine gm_aload_n C dX10_roll_50 rfl 0 rfl ?_
          refine gm_getr (j := 8) (u := 8) C (Nat.le_of_ble_eq_true rfl) rfl kc_10 (k := 1) rfl (by decide) rfl rfl wl_329 dX10_roll_51 ?_
          refine gm_iload_n C dX10_roll_54 rfl 1 rfl ?_
          obtain ⟨v8, ev8, hf⟩ := gm_bp1_s hf
          refine gm_callVi (As := [.int a0]) C (Tr_ticketsLeft_c l cf ad gm_tr_8 ev8) (Nat.le_of_ble_eq_true rfl) rfl kc_9 wy_Tr_ticketsLeft rfl wl_567 rfl ⟨(Nat.le_of_ble_eq_true rfl), (Nat.le_of_ble_eq_true rfl)⟩ rfl (Nat.le_of_ble_eq_true rfl) dX10_roll_55 ?_
          refine gm_istore (lv' := [(4, .int v8), (0, .ref (ad 0)), (1, .int a0), (2, .int a1), (3, .int a2)]) C dX10_roll_58 (by decide) rfl ?_
          refine gm_aload_n C dX10_roll_60 rfl 1 rfl ?_
          refine gm_getr (j := 8) (u := 8) C (Nat.le_of_ble_eq_true rfl) rfl kc_10 (k := 1) rfl (by decide) rfl rfl wl_329 dX10_roll_61 ?_
          refine gm_iload_n C dX10_roll_64 rfl 2 rfl ?_
          refine gm_iload_n C dX10_roll_65 rfl 3 rfl ?_
          refine gm_iload_n C dX10_roll_66 rfl 4 rfl ?_
          obtain ⟨S9, eS9, hf⟩ := gm_bp1_s hf
          refine gm_callVv (As := [.int a0, .int a1, .int a2]) C (Tr_putRoll_c l cf ad gm_tr_8 eS9) (Nat.le_of_ble_eq_true rfl) rfl kc_9 wy_Tr_putRoll rfl wl_729 rfl ⟨(Nat.le_of_ble_eq_true rfl), (Nat.le_of_ble_eq_true rfl)⟩ rfl (Nat.le_of_ble_eq_true rfl) dX10_roll_67 ?_
          refine gm_iload C dX10_roll_70 0 rfl ?_
          exact gm_iret C hr rfl dX10_roll_72 hf
        · have hf := gm_if _ c6 hf
          refine gm_ldc (v := (-1000000002)) C wl_360 dX10_roll_36 ?_
          exact gm_iret C hr rfl dX10_roll_38 hf
  · have hf := gm_it _ c2 hf
    refine gm_ldc (v := (-1000000001)) C wl_617 dX10_roll_11 ?_
    exact gm_iret C hr rfl dX10_roll_13 hf
theorem dX10_drawOf_0 : decode cX10_drawOf 0 = .ok (.aload_n 0, 1) := by decide +kernel
theorem dX10_drawOf_1 : decode cX10_drawOf 1 = .ok (.aload_n 0, 1) := by decide +kernel
theorem dX10_drawOf_2 : decode cX10_drawOf 2 = .ok (.getfield 264, 3) := by decide +kernel
theorem dX10_drawOf_5 : decode cX10_drawOf 5 = .ok (.ldc2_w 285, 3) := by decide +kernel
theorem dX10_drawOf_8 : decode cX10_drawOf 8 = .ok (.lmul, 1) := by decide +kernel
theorem dX10_drawOf_9 : decode cX10_drawOf 9 = .ok (.ldc2_w 287, 3) := by decide +kernel
theorem dX10_drawOf_12 : decode cX10_drawOf 12 = .ok (.ladd, 1) := by decide +kernel
theorem dX10_drawOf_13 : decode cX10_drawOf 13 = .ok (.ldc2_w 289, 3) := by decide +kernel
theorem dX10_drawOf_16 : decode cX10_drawOf 16 = .ok (.lrem, 1) := by decide +kernel
theorem dX10_drawOf_17 : decode cX10_drawOf 17 = .ok (.putfield 264, 3) := by decide +kernel
theorem dX10_drawOf_20 : decode cX10_drawOf 20 = .ok (.iload_n 1, 1) := by decide +kernel
theorem dX10_drawOf_21 : decode cX10_drawOf 21 = .ok (.ifCond .le 18, 3) := by decide +kernel
theorem dX10_drawOf_24 : decode cX10_drawOf 24 = .ok (.aload_n 0, 1) := by decide +kernel
theorem dX10_drawOf_25 : decode cX10_drawOf 25 = .ok (.getfield 264, 3) := by decide +kernel
theorem dX10_drawOf_28 : decode cX10_drawOf 28 = .ok (.ldc2_w 291, 3) := by decide +kernel
theorem dX10_drawOf_31 : decode cX10_drawOf 31 = .ok (.ldiv, 1) := by decide +kernel
theorem dX10_drawOf_32 : decode cX10_drawOf 32 = .ok (.iload_n 1, 1) := by decide +kernel
theorem dX10_drawOf_33 : decode cX10_drawOf 33 = .ok (.i2l, 1) := by decide +kernel
theorem dX10_drawOf_34 : decode cX10_drawOf 34 = .ok (.lrem, 1) := by decide +kernel
theorem dX10_drawOf_35 : decode cX10_drawOf 35 = .ok (.l2i, 1) := by decide +kernel
theorem dX10_drawOf_36 : decode cX10_drawOf 36 = .ok (.goto 4, 3) := by decide +kernel
theorem dX10_drawOf_39 : decode cX10_drawOf 39 = .ok (.iconst 0, 1) := by decide +kernel
theorem dX10_drawOf_40 : decode cX10_drawOf 40 = .ok (.ireturn, 1) := by decide +kernel
def Lt_drawOf (a0 : Int32) (S : gm_M) : Option (Int32 × gm_M) :=
  gm_lt (α := gm_M) (gm_uj S 0 7 (gm_rml (((S.2 0 7) * 1103515245) + 12345) 2147483648)) fun S1 =>
  if a0 ≤ 0 then (
    some (0, S1)
  ) else (
    if (a0 : Int32).toInt64 = 0 then none else
    some ((gm_rml ((S1.2 0 7) / 65536) ((a0 : Int32).toInt64) : Int64).toInt32, S1)
  )
set_option maxHeartbeats 4000000 in
set_option maxRecDepth 100000 in
theorem Lt_drawOf_c (l : Launch) (cf : gm_C) (ad : Nat → Nat)    {a0 : Int32} {S : gm_M} {r : Int32} {S'  : gm_M} (hf : Lt_drawOf a0 S = some (r, S')) : gm_Met l yX10_drawOf cX10_drawOf 2 (some .int) 0 0 cf ad gm_sC 106 [.ref (ad 0), .int a0] S (some (.int r)) S' := by
  refine gm_met (by decide +kernel) (Nat.le_of_ble_eq_true rfl) ?_
  intro p e s m args below meth c C hr
  have C : gm_F p s m args meth c cf ad 106 cX10_drawOf 2 RX10 := C
  refine gm_lve (lv' := [(0, .ref (ad 0)), (1, .int a0)]) rfl ?_
  unfold Lt_drawOf at hf
  refine gm_aload_n C dX10_drawOf_0 rfl 0 rfl ?_
  refine gm_aload_n C dX10_drawOf_1 rfl 0 rfl ?_
  refine gm_getl C (Nat.le_of_ble_eq_true rfl) rfl kc_10 (k := 7) rfl (by decide) rfl wl_335 dX10_drawOf_2 ?_
  refine gm_ldc2 (v := 1103515245) C wl_742 dX10_drawOf_5 ?_
  refine gm_lmul C dX10_drawOf_8 ?_
  refine gm_ldc2 (v := 12345) C wl_743 dX10_drawOf_9 ?_
  refine gm_ladd C dX10_drawOf_12 ?_
  refine gm_ldc2 (v := 2147483648) C wl_744 dX10_drawOf_13 ?_
  refine gm_lrem C dX10_drawOf_16 (by decide) ?_
  refine gm_putl C (Nat.le_of_ble_eq_true rfl) rfl kc_10 (k := 7) rfl (by decide) rfl rfl (kc_10.2.2.2.1 7 (by decide)) rfl rfl wl_335 dX10_drawOf_17 ?_
  obtain ⟨S1, eS1, hf⟩ := gm_lt_s hf
  refine gm_topm eS1 ?_
  refine gm_iload_n C dX10_drawOf_20 rfl 1 rfl ?_
  refine gm_if_le C 39 dX10_drawOf_21 (by decide) (fun c2 => ?_) (fun c2 => ?_)
  · have hf := gm_it _ c2 hf
    refine gm_iconst (v := 0) C dX10_drawOf_39 (by decide) ?_
    exact gm_iret C hr rfl dX10_drawOf_40 hf
  · have hf := gm_if _ c2 hf
    refine gm_aload_n C dX10_drawOf_24 rfl 0 rfl ?_
    refine gm_getl C (Nat.le_of_ble_eq_true rfl) rfl kc_10 (k := 7) rfl (by decide) rfl wl_335 dX10_drawOf_25 ?_
    refine gm_ldc2 (v := 65536) C wl_745 dX10_drawOf_28 ?_
    refine gm_ldiv C dX10_drawOf_31 (by decide) ?_
    refine gm_iload_n C dX10_drawOf_32 rfl 1 rfl ?_
    refine gm_i2l C dX10_drawOf_33 rfl ?_
    obtain ⟨h3, hf⟩ := gm_iz _ hf
    refine gm_lrem C dX10_drawOf_34 h3 ?_
    refine gm_l2i C dX10_drawOf_35 rfl ?_
    refine gm_goto C 40 dX10_drawOf_36 (by decide) ?_
    exact gm_iret C hr rfl dX10_drawOf_40 hf
theorem dX10_liveOneDay_0 : decode cX10_liveOneDay 0 = .ok (.aload_n 0, 1) := by decide +kernel
theorem dX10_liveOneDay_1 : decode cX10_liveOneDay 1 = .ok (.getfield 19, 3) := by decide +kernel
theorem dX10_liveOneDay_4 : decode cX10_liveOneDay 4 = .ok (.dup, 1) := by decide +kernel
theorem dX10_liveOneDay_5 : decode cX10_liveOneDay 5 = .ok (.getfield 121, 3) := by decide +kernel
theorem dX10_liveOneDay_8 : decode cX10_liveOneDay 8 = .ok (.iconst 1, 1) := by decide +kernel
theorem dX10_liveOneDay_9 : decode cX10_liveOneDay 9 = .ok (.iadd, 1) := by decide +kernel
theorem dX10_liveOneDay_10 : decode cX10_liveOneDay 10 = .ok (.putfield 121, 3) := by decide +kernel
theorem dX10_liveOneDay_13 : decode cX10_liveOneDay 13 = .ok (.aload_n 0, 1) := by decide +kernel
theorem dX10_liveOneDay_14 : decode cX10_liveOneDay 14 = .ok (.getfield 19, 3) := by decide +kernel
theorem dX10_liveOneDay_17 : decode cX10_liveOneDay 17 = .ok (.getfield 118, 3) := by decide +kernel
theorem dX10_liveOneDay_20 : decode cX10_liveOneDay 20 = .ok (.ifCond .eq 13, 3) := by decide +kernel
theorem dX10_liveOneDay_23 : decode cX10_liveOneDay 23 = .ok (.aload_n 0, 1) := by decide +kernel
theorem dX10_liveOneDay_24 : decode cX10_liveOneDay 24 = .ok (.getfield 19, 3) := by decide +kernel
theorem dX10_liveOneDay_27 : decode cX10_liveOneDay 27 = .ok (.getfield 109, 3) := by decide +kernel
theorem dX10_liveOneDay_30 : decode cX10_liveOneDay 30 = .ok (.ifCond .ne 4, 3) := by decide +kernel
theorem dX10_liveOneDay_33 : decode cX10_liveOneDay 33 = .ok (.return_, 1) := by decide +kernel
theorem dX10_liveOneDay_34 : decode cX10_liveOneDay 34 = .ok (.aload_n 0, 1) := by decide +kernel
theorem dX10_liveOneDay_35 : decode cX10_liveOneDay 35 = .ok (.iconst 4, 1) := by decide +kernel
theorem dX10_liveOneDay_36 : decode cX10_liveOneDay 36 = .ok (.invokevirtual 280, 3) := by decide +kernel
theorem dX10_liveOneDay_39 : decode cX10_liveOneDay 39 = .ok (.istore_n 1, 1) := by decide +kernel
theorem dX10_liveOneDay_40 : decode cX10_liveOneDay 40 = .ok (.aload_n 0, 1) := by decide +kernel
theorem dX10_liveOneDay_41 : decode cX10_liveOneDay 41 = .ok (.aload_n 0, 1) := by decide +kernel
theorem dX10_liveOneDay_42 : decode cX10_liveOneDay 42 = .ok (.getfield 19, 3) := by decide +kernel
theorem dX10_liveOneDay_45 : decode cX10_liveOneDay 45 = .ok (.getfield 118, 3) := by decide +kernel
theorem dX10_liveOneDay_48 : decode cX10_liveOneDay 48 = .ok (.invokevirtual 280, 3) := by decide +kernel
theorem dX10_liveOneDay_51 : decode cX10_liveOneDay 51 = .ok (.istore_n 2, 1) := by decide +kernel
theorem dX10_liveOneDay_52 : decode cX10_liveOneDay 52 = .ok (.aload_n 0, 1) := by decide +kernel
theorem dX10_liveOneDay_53 : decode cX10_liveOneDay 53 = .ok (.aload_n 0, 1) := by decide +kernel
theorem dX10_liveOneDay_54 : decode cX10_liveOneDay 54 = .ok (.getfield 19, 3) := by decide +kernel
theorem dX10_liveOneDay_57 : decode cX10_liveOneDay 57 = .ok (.getfield 109, 3) := by decide +kernel
theorem dX10_liveOneDay_60 : decode cX10_liveOneDay 60 = .ok (.invokevirtual 280, 3) := by decide +kernel
theorem dX10_liveOneDay_63 : decode cX10_liveOneDay 63 = .ok (.istore_n 3, 1) := by decide +kernel
theorem dX10_liveOneDay_64 : decode cX10_liveOneDay 64 = .ok (.iload_n 1, 1) := by decide +kernel
theorem dX10_liveOneDay_65 : decode cX10_liveOneDay 65 = .ok (.iconst 3, 1) := by decide +kernel
theorem dX10_liveOneDay_66 : decode cX10_liveOneDay 66 = .ok (.if_icmp .ne 27, 3) := by decide +kernel
theorem dX10_liveOneDay_69 : decode cX10_liveOneDay 69 = .ok (.aload_n 0, 1) := by decide +kernel
theorem dX10_liveOneDay_70 : decode cX10_liveOneDay 70 = .ok (.getfield 19, 3) := by decide +kernel
theorem dX10_liveOneDay_73 : decode cX10_liveOneDay 73 = .ok (.iload_n 2, 1) := by decide +kernel
theorem dX10_liveOneDay_74 : decode cX10_liveOneDay 74 = .ok (.aload_n 0, 1) := by decide +kernel
theorem dX10_liveOneDay_75 : decode cX10_liveOneDay 75 = .ok (.aload_n 0, 1) := by decide +kernel
theorem dX10_liveOneDay_76 : decode cX10_liveOneDay 76 = .ok (.getfield 19, 3) := by decide +kernel
theorem dX10_liveOneDay_79 : decode cX10_liveOneDay 79 = .ok (.invokevirtual 283, 3) := by decide +kernel
theorem dX10_liveOneDay_82 : decode cX10_liveOneDay 82 = .ok (.invokevirtual 280, 3) := by decide +kernel
theorem dX10_liveOneDay_85 : decode cX10_liveOneDay 85 = .ok (.bipush 50, 2) := by decide +kernel
theorem dX10_liveOneDay_87 : decode cX10_liveOneDay 87 = .ok (.invokevirtual 221, 3) := by decide +kernel
theorem dX10_liveOneDay_90 : decode cX10_liveOneDay 90 = .ok (.goto 21, 3) := by decide +kernel
theorem dX10_liveOneDay_93 : decode cX10_liveOneDay 93 = .ok (.aload_n 0, 1) := by decide +kernel
theorem dX10_liveOneDay_94 : decode cX10_liveOneDay 94 = .ok (.getfield 19, 3) := by decide +kernel
theorem dX10_liveOneDay_97 : decode cX10_liveOneDay 97 = .ok (.iload_n 2, 1) := by decide +kernel
theorem dX10_liveOneDay_98 : decode cX10_liveOneDay 98 = .ok (.invokevirtual 170, 3) := by decide +kernel
theorem dX10_liveOneDay_101 : decode cX10_liveOneDay 101 = .ok (.ifCond .le 10, 3) := by decide +kernel
theorem dX10_liveOneDay_104 : decode cX10_liveOneDay 104 = .ok (.aload_n 0, 1) := by decide +kernel
theorem dX10_liveOneDay_105 : decode cX10_liveOneDay 105 = .ok (.iload_n 2, 1) := by decide +kernel
theorem dX10_liveOneDay_106 : decode cX10_liveOneDay 106 = .ok (.iload_n 3, 1) := by decide +kernel
theorem dX10_liveOneDay_107 : decode cX10_liveOneDay 107 = .ok (.invokevirtual 205, 3) := by decide +kernel
theorem dX10_liveOneDay_110 : decode cX10_liveOneDay 110 = .ok (.pop, 1) := by decide +kernel
theorem dX10_liveOneDay_111 : decode cX10_liveOneDay 111 = .ok (.return_, 1) := by decide +kernel
def Lt_liveOneDay (fl : Nat) (S : gm_M) : Option gm_M :=
  gm_lt (α := gm_M) (gm_ui S 8 5 ((S.1 8 5) + 1)) fun S1 =>
  if S1.1 8 7 = 0 then (
    some S1
  ) else (
    if S1.1 8 8 = 0 then (
      some S1
    ) else (
      gm_bp2 (Lt_drawOf 4 S1) fun v4 S5 =>
      gm_bp2 (Lt_drawOf (S5.1 8 7) S5) fun v6 S7 =>
      gm_bp2 (Lt_drawOf (S7.1 8 8) S7) fun v8 S9 =>
      if v4 = 3 then (
        gm_bp1 (Tr_numbers fl 8 S9) fun v15 =>
        gm_bp2 (Lt_drawOf v15 S9) fun v16 S17 =>
        gm_bp1 (Tr_putRoll 8 v6 v16 50 S17) fun S18 =>
        some S18
      ) else (
        gm_bp1 (Tr_ticketsLeft 8 v6 S9) fun v11 =>
        if v11 ≤ 0 then (
          some S9
        ) else (
          gm_bp2 (Lt_sellOne fl v6 v8 S9) fun v13 S14 =>
          some S14
        )
      )
    )
  )
set_option maxHeartbeats 4000000 in
set_option maxRecDepth 100000 in
theorem Lt_liveOneDay_c (l : Launch) (cf : gm_C) (ad : Nat → Nat) {fl : Nat}    {S : gm_M}  {S'  : gm_M} (hf : Lt_liveOneDay fl S = some S') : gm_Met l yX10_liveOneDay cX10_liveOneDay 4 none 5 106 cf ad gm_sC 106 [.ref (ad 0)] S none S' := by
  refine gm_met (by decide +kernel) (Nat.le_of_ble_eq_true rfl) ?_
  intro p e s m args below meth c C hr
  have C : gm_F p s m args meth c cf ad 106 cX10_liveOneDay 4 RX10 := C
  refine gm_lve (lv' := [(0, .ref (ad 0))]) rfl ?_
  unfold Lt_liveOneDay at hf
  refine gm_aload_n C dX10_liveOneDay_0 rfl 0 rfl ?_
  refine gm_getr (j := 8) (u := 8) C (Nat.le_of_ble_eq_true rfl) rfl kc_10 (k := 1) rfl (by decide) rfl rfl wl_329 dX10_liveOneDay_1 ?_
  refine gm_dup C dX10_liveOneDay_4 rfl ?_
  refine gm_geti C (Nat.le_of_ble_eq_true rfl) rfl kc_9 (k := 5) rfl (by decide) rfl wl_118 dX10_liveOneDay_5 ?_
  refine gm_iconst (v := 1) C dX10_liveOneDay_8 (by decide) ?_
  refine gm_iadd C dX10_liveOneDay_9 ?_
  refine gm_puti C (Nat.le_of_ble_eq_true rfl) rfl kc_9 (k := 5) rfl (by decide) rfl rfl (kc_9.2.2.2.1 5 (by decide)) rfl rfl wl_118 dX10_liveOneDay_10 ?_
  obtain ⟨S1, eS1, hf⟩ := gm_lt_s hf
  refine gm_topm eS1 ?_
  refine gm_aload_n C dX10_liveOneDay_13 rfl 0 rfl ?_
  refine gm_getr (j := 8) (u := 8) C (Nat.le_of_ble_eq_true rfl) rfl kc_10 (k := 1) rfl (by decide) rfl rfl wl_329 dX10_liveOneDay_14 ?_
  refine gm_geti C (Nat.le_of_ble_eq_true rfl) rfl kc_9 (k := 7) rfl (by decide) rfl wl_124 dX10_liveOneDay_17 ?_
  refine gm_if_eq C 33 dX10_liveOneDay_20 (by decide) (fun c2 => ?_) (fun c2 => ?_)
  · have hf := gm_it _ c2 hf
    exact gm_vret C hr dX10_liveOneDay_33 hf
  · have hf := gm_if _ c2 hf
    refine gm_aload_n C dX10_liveOneDay_23 rfl 0 rfl ?_
    refine gm_getr (j := 8) (u := 8) C (Nat.le_of_ble_eq_true rfl) rfl kc_10 (k := 1) rfl (by decide) rfl rfl wl_329 dX10_liveOneDay_24 ?_
    refine gm_geti C (Nat.le_of_ble_eq_true rfl) rfl kc_9 (k := 8) rfl (by decide) rfl wl_127 dX10_liveOneDay_27 ?_
    refine gm_if_ne C 34 dX10_liveOneDay_30 (by decide) (fun c3 => ?_) (fun c3 => ?_)
    · have hf := gm_if _ c3 hf
      refine gm_aload_n C dX10_liveOneDay_34 rfl 0 rfl ?_
      refine gm_iconst (v := 4) C dX10_liveOneDay_35 (by decide) ?_
      obtain ⟨v4, S5, eS5, hf⟩ := gm_bp2_s hf
      refine gm_callVi (As := [.int 4]) C (Lt_drawOf_c l cf ad eS5) (Nat.le_of_ble_eq_true rfl) rfl kc_10 wy_Lt_drawOf rfl wl_738 rfl ⟨(Nat.le_of_ble_eq_true rfl), (Nat.le_of_ble_eq_true rfl)⟩ rfl (Nat.le_of_ble_eq_true rfl) dX10_liveOneDay_36 ?_
      refine gm_istore_n (lv' := [(1, .int v4), (0, .ref (ad 0))]) C dX10_liveOneDay_39 rfl (by decide) rfl ?_
      refine gm_aload_n C dX10_liveOneDay_40 rfl 1 rfl ?_
      refine gm_aload_n C dX10_liveOneDay_41 rfl 1 rfl ?_
      refine gm_getr (j := 8) (u := 8) C (Nat.le_of_ble_eq_true rfl) rfl kc_10 (k := 1) rfl (by decide) rfl rfl wl_329 dX10_liveOneDay_42 ?_
      refine gm_geti C (Nat.le_of_ble_eq_true rfl) rfl kc_9 (k := 7) rfl (by decide) rfl wl_124 dX10_liveOneDay_45 ?_
      obtain ⟨v6, S7, eS7, hf⟩ := gm_bp2_s hf
      refine gm_callVi (As := [.int (S5.1 8 7)]) C (Lt_drawOf_c l cf ad eS7) (Nat.le_of_ble_eq_true rfl) rfl kc_10 wy_Lt_drawOf rfl wl_738 rfl ⟨(Nat.le_of_ble_eq_true rfl), (Nat.le_of_ble_eq_true rfl)⟩ rfl (Nat.le_of_ble_eq_true rfl) dX10_liveOneDay_48 ?_
      refine gm_istore_n (lv' := [(2, .int v6), (1, .int v4), (0, .ref (ad 0))]) C dX10_liveOneDay_51 rfl (by decide) rfl ?_
      refine gm_aload_n C dX10_liveOneDay_52 rfl 2 rfl ?_
      refine gm_aload_n C dX10_liveOneDay_53 rfl 2 rfl ?_
      refine gm_getr (j := 8) (u := 8) C (Nat.le_of_ble_eq_true rfl) rfl kc_10 (k := 1) rfl (by decide) rfl rfl wl_329 dX10_liveOneDay_54 ?_
      refine gm_geti C (Nat.le_of_ble_eq_true rfl) rfl kc_9 (k := 8) rfl (by decide) rfl wl_127 dX10_liveOneDay_57 ?_
      obtain ⟨v8, S9, eS9, hf⟩ := gm_bp2_s hf
      refine gm_callVi (As := [.int (S7.1 8 8)]) C (Lt_drawOf_c l cf ad eS9) (Nat.le_of_ble_eq_true rfl) rfl kc_10 wy_Lt_drawOf rfl wl_738 rfl ⟨(Nat.le_of_ble_eq_true rfl), (Nat.le_of_ble_eq_true rfl)⟩ rfl (Nat.le_of_ble_eq_true rfl) dX10_liveOneDay_60 ?_
      refine gm_istore_n (lv' := [(3, .int v8), (2, .int v6), (1, .int v4), (0, .ref (ad 0))]) C dX10_liveOneDay_63 rfl (by decide) rfl ?_
      refine gm_iload_n C dX10_liveOneDay_64 rfl 2 rfl ?_
      refine gm_iconst (v := 3) C dX10_liveOneDay_65 (by decide) ?_
      refine gm_icmp_ne C 93 dX10_liveOneDay_66 (by decide) (fun c10 => ?_) (fun c10 => ?_)
      · have hf := gm_if _ c10 hf
        refine gm_aload_n C dX10_liveOneDay_93 rfl 3 rfl ?_
        refine gm_getr (j := 8) (u := 8) C (Nat.le_of_ble_eq_true rfl) rfl kc_10 (k := 1) rfl (by decide) rfl rfl wl_329 dX10_liveOneDay_94 ?_
        refine gm_iload_n C dX10_liveOneDay_97 rfl 1 rfl ?_
        obtain ⟨v11, ev11, hf⟩ := gm_bp1_s hf
        refine gm_callVi (As := [.int v6]) C (Tr_ticketsLeft_c l cf ad gm_tr_8 ev11) (Nat.le_of_ble_eq_true rfl) rfl kc_9 wy_Tr_ticketsLeft rfl wl_567 rfl ⟨(Nat.le_of_ble_eq_true rfl), (Nat.le_of_ble_eq_true rfl)⟩ rfl (Nat.le_of_ble_eq_true rfl) dX10_liveOneDay_98 ?_
        refine gm_if_le C 111 dX10_liveOneDay_101 (by decide) (fun c12 => ?_) (fun c12 => ?_)
        · have hf := gm_it _ c12 hf
          exact gm_vret C hr dX10_liveOneDay_111 hf
        · have hf := gm_if _ c12 hf
          refine gm_aload_n C dX10_liveOneDay_104 rfl 3 rfl ?_
          refine gm_iload_n C dX10_liveOneDay_105 rfl 1 rfl ?_
          refine gm_iload_n C dX10_liveOneDay_106 rfl 0 rfl ?_
          obtain ⟨v13, S14, eS14, hf⟩ := gm_bp2_s hf
          refine gm_callVi (As := [.int v6, .int v8]) C (Lt_sellOne_c l cf ad eS14) (Nat.le_of_ble_eq_true rfl) rfl kc_10 wy_Lt_sellOne rfl wl_679 rfl ⟨(Nat.le_of_ble_eq_true rfl), (Nat.le_of_ble_eq_true rfl)⟩ rfl (Nat.le_of_ble_eq_true rfl) dX10_liveOneDay_107 ?_
          refine gm_pop C dX10_liveOneDay_110 rfl ?_
          exact gm_vret C hr dX10_liveOneDay_111 hf
      · have hf := gm_it _ c10 hf
        refine gm_aload_n C dX10_liveOneDay_69 rfl 3 rfl ?_
        refine gm_getr (j := 8) (u := 8) C (Nat.le_of_ble_eq_true rfl) rfl kc_10 (k := 1) rfl (by decide) rfl rfl wl_329 dX10_liveOneDay_70 ?_
        refine gm_iload_n C dX10_liveOneDay_73 rfl 1 rfl ?_
        refine gm_aload_n C dX10_liveOneDay_74 rfl 3 rfl ?_
        refine gm_aload_n C dX10_liveOneDay_75 rfl 3 rfl ?_
        refine gm_getr (j := 8) (u := 8) C (Nat.le_of_ble_eq_true rfl) rfl kc_10 (k := 1) rfl (by decide) rfl rfl wl_329 dX10_liveOneDay_76 ?_
        obtain ⟨v15, ev15, hf⟩ := gm_bp1_s hf
        refine gm_callVi (As := []) C (Tr_numbers_c l cf ad gm_tr_8 ev15) (Nat.le_of_ble_eq_true rfl) rfl kc_9 wy_Tr_numbers rfl wl_746 rfl ⟨(Nat.le_of_ble_eq_true rfl), (Nat.le_of_ble_eq_true rfl)⟩ rfl (Nat.le_of_ble_eq_true rfl) dX10_liveOneDay_79 ?_
        obtain ⟨v16, S17, eS17, hf⟩ := gm_bp2_s hf
        refine gm_callVi (As := [.int v15]) C (Lt_drawOf_c l cf ad eS17) (Nat.le_of_ble_eq_true rfl) rfl kc_10 wy_Lt_drawOf rfl wl_738 rfl ⟨(Nat.le_of_ble_eq_true rfl), (Nat.le_of_ble_eq_true rfl)⟩ rfl (Nat.le_of_ble_eq_true rfl) dX10_liveOneDay_82 ?_
        refine gm_bipush (v := 50) C dX10_liveOneDay_85 (by decide) ?_
        obtain ⟨S18, eS18, hf⟩ := gm_bp1_s hf
        refine gm_callVv (As := [.int v6, .int v16, .int 50]) C (Tr_putRoll_c l cf ad gm_tr_8 eS18) (Nat.le_of_ble_eq_true rfl) rfl kc_9 wy_Tr_putRoll rfl wl_729 rfl ⟨(Nat.le_of_ble_eq_true rfl), (Nat.le_of_ble_eq_true rfl)⟩ rfl (Nat.le_of_ble_eq_true rfl) dX10_liveOneDay_87 ?_
        refine gm_goto C 111 dX10_liveOneDay_90 (by decide) ?_
        exact gm_vret C hr dX10_liveOneDay_111 hf
    · have hf := gm_it _ c3 hf
      exact gm_vret C hr dX10_liveOneDay_33 hf
theorem dX10_drift_0 : decode cX10_drift 0 = .ok (.iload_n 1, 1) := by decide +kernel
theorem dX10_drift_1 : decode cX10_drift 1 = .ok (.iconst 1, 1) := by decide +kernel
theorem dX10_drift_2 : decode cX10_drift 2 = .ok (.if_icmp .lt 9, 3) := by decide +kernel
theorem dX10_drift_5 : decode cX10_drift 5 = .ok (.iload_n 1, 1) := by decide +kernel
theorem dX10_drift_6 : decode cX10_drift 6 = .ok (.bipush 60, 2) := by decide +kernel
theorem dX10_drift_8 : decode cX10_drift 8 = .ok (.if_icmp .le 6, 3) := by decide +kernel
theorem dX10_drift_11 : decode cX10_drift 11 = .ok (.ldc 62, 2) := by decide +kernel
theorem dX10_drift_13 : decode cX10_drift 13 = .ok (.ireturn, 1) := by decide +kernel
theorem dX10_drift_14 : decode cX10_drift 14 = .ok (.aload_n 0, 1) := by decide +kernel
theorem dX10_drift_15 : decode cX10_drift 15 = .ok (.getfield 19, 3) := by decide +kernel
theorem dX10_drift_18 : decode cX10_drift 18 = .ok (.getfield 97, 3) := by decide +kernel
theorem dX10_drift_21 : decode cX10_drift 21 = .ok (.ifCond .ne 6, 3) := by decide +kernel
theorem dX10_drift_24 : decode cX10_drift 24 = .ok (.ldc 201, 2) := by decide +kernel
theorem dX10_drift_26 : decode cX10_drift 26 = .ok (.ireturn, 1) := by decide +kernel
theorem dX10_drift_27 : decode cX10_drift 27 = .ok (.aload_n 0, 1) := by decide +kernel
theorem dX10_drift_28 : decode cX10_drift 28 = .ok (.getfield 19, 3) := by decide +kernel
theorem dX10_drift_31 : decode cX10_drift 31 = .ok (.getfield 121, 3) := by decide +kernel
theorem dX10_drift_34 : decode cX10_drift 34 = .ok (.sipush 9000, 3) := by decide +kernel
theorem dX10_drift_37 : decode cX10_drift 37 = .ok (.if_icmp .le 6, 3) := by decide +kernel
theorem dX10_drift_40 : decode cX10_drift 40 = .ok (.ldc 76, 2) := by decide +kernel
theorem dX10_drift_42 : decode cX10_drift 42 = .ok (.ireturn, 1) := by decide +kernel
theorem dX10_drift_43 : decode cX10_drift 43 = .ok (.aload_n 0, 1) := by decide +kernel
theorem dX10_drift_44 : decode cX10_drift 44 = .ok (.getfield 33, 3) := by decide +kernel
theorem dX10_drift_47 : decode cX10_drift 47 = .ok (.aload_n 0, 1) := by decide +kernel
theorem dX10_drift_48 : decode cX10_drift 48 = .ok (.getfield 19, 3) := by decide +kernel
theorem dX10_drift_51 : decode cX10_drift 51 = .ok (.invokevirtual 202, 3) := by decide +kernel
theorem dX10_drift_54 : decode cX10_drift 54 = .ok (.iconst 0, 1) := by decide +kernel
theorem dX10_drift_55 : decode cX10_drift 55 = .ok (.istore_n 2, 1) := by decide +kernel
theorem dX10_drift_56 : decode cX10_drift 56 = .ok (.iload_n 2, 1) := by decide +kernel
theorem dX10_drift_57 : decode cX10_drift 57 = .ok (.iload_n 1, 1) := by decide +kernel
theorem dX10_drift_58 : decode cX10_drift 58 = .ok (.if_icmp .ge 13, 3) := by decide +kernel
theorem dX10_drift_61 : decode cX10_drift 61 = .ok (.aload_n 0, 1) := by decide +kernel
theorem dX10_drift_62 : decode cX10_drift 62 = .ok (.invokevirtual 225, 3) := by decide +kernel
theorem dX10_drift_65 : decode cX10_drift 65 = .ok (.iinc 2 1, 3) := by decide +kernel
theorem dX10_drift_68 : decode cX10_drift 68 = .ok (.goto (-12), 3) := by decide +kernel
theorem dX10_drift_71 : decode cX10_drift 71 = .ok (.aload_n 0, 1) := by decide +kernel
theorem dX10_drift_72 : decode cX10_drift 72 = .ok (.getfield 19, 3) := by decide +kernel
theorem dX10_drift_75 : decode cX10_drift 75 = .ok (.getfield 121, 3) := by decide +kernel
theorem dX10_drift_78 : decode cX10_drift 78 = .ok (.ireturn, 1) := by decide +kernel
def Lt_drift_L56_b (fl : Nat) (a0 : Int32) (rec : Int32 → gm_M → Option (gm_M)) (y6 : Int32) (S7 : gm_M) : Option (gm_M) :=
  if a0 ≤ y6 then (
    some (S7)
  ) else (
    gm_bp1 (Lt_liveOneDay fl S7) fun S10 =>
    gm_lt (α := Int32) (y6 + 1) fun x11 =>
    rec x11 S10
  )
def Lt_drift_L56 (fl : Nat) (a0 : Int32) : Nat → Int32 → gm_M → Option (gm_M)
  | 0 => fun _ _ => none
  | n + 1 => Lt_drift_L56_b fl a0 (Lt_drift_L56 fl a0 n)
def Lt_drift (fl : Nat) (a0 : Int32) (S : gm_M) : Option (Int32 × gm_M) :=
  if a0 < 1 then (
    some ((-1000000002), S)
  ) else (
    if a0 ≤ 60 then (
      if S.1 8 3 = 0 then (
        some ((-1000000003), S)
      ) else (
        if S.1 8 5 ≤ 9000 then (
          gm_bp1 (Ps_remember S) fun S5 =>
          gm_bp1 (Lt_drift_L56 fl a0 fl 0 S5) fun S8 =>
          some (S8.1 8 5, S8)
        ) else (
          some ((-1000000004), S)
        )
      )
    ) else (
      some ((-1000000002), S)
    )
  )
set_option maxHeartbeats 4000000 in
set_option maxRecDepth 100000 in
theorem Lt_drift_c (l : Launch) (cf : gm_C) (ad : Nat → Nat) {fl : Nat}   {a0 : Int32} {S : gm_M} {r : Int32} {S'  : gm_M} (hf : Lt_drift fl a0 S = some (r, S')) : gm_Met l yX10_drift cX10_drift 3 (some .int) 6 129 cf ad gm_sC 106 [.ref (ad 0), .int a0] S (some (.int r)) S' := by
  refine gm_met (by decide +kernel) (Nat.le_of_ble_eq_true rfl) ?_
  intro p e s m args below meth c C hr
  have C : gm_F p s m args meth c cf ad 106 cX10_drift 3 RX10 := C
  refine gm_lve (lv' := [(0, .ref (ad 0)), (1, .int a0)]) rfl ?_
  unfold Lt_drift at hf
  refine gm_iload_n C dX10_drift_0 rfl 1 rfl ?_
  refine gm_iconst (v := 1) C dX10_drift_1 (by decide) ?_
  refine gm_icmp_lt C 11 dX10_drift_2 (by decide) (fun c1 => ?_) (fun c1 => ?_)
  · have hf := gm_it _ c1 hf
    refine gm_ldc (v := (-1000000002)) C wl_360 dX10_drift_11 ?_
    exact gm_iret C hr rfl dX10_drift_13 hf
  · have hf := gm_if _ c1 hf
    refine gm_iload_n C dX10_drift_5 rfl 1 rfl ?_
    refine gm_bipush (v := 60) C dX10_drift_6 (by decide) ?_
    refine gm_icmp_le C 14 dX10_drift_8 (by decide) (fun c2 => ?_) (fun c2 => ?_)
    · have hf := gm_it _ c2 hf
      refine gm_aload_n C dX10_drift_14 rfl 0 rfl ?_
      refine gm_getr (j := 8) (u := 8) C (Nat.le_of_ble_eq_true rfl) rfl kc_10 (k := 1) rfl (by decide) rfl rfl wl_329 dX10_drift_15 ?_
      refine gm_geti C (Nat.le_of_ble_eq_true rfl) rfl kc_9 (k := 3) rfl (by decide) rfl wl_111 dX10_drift_18 ?_
      refine gm_if_ne C 27 dX10_drift_21 (by decide) (fun c3 => ?_) (fun c3 => ?_)
      · have hf := gm_if _ c3 hf
        refine gm_aload_n C dX10_drift_27 rfl 0 rfl ?_
        refine gm_getr (j := 8) (u := 8) C (Nat.le_of_ble_eq_true rfl) rfl kc_10 (k := 1) rfl (by decide) rfl rfl wl_329 dX10_drift_28 ?_
        refine gm_geti C (Nat.le_of_ble_eq_true rfl) rfl kc_9 (k := 5) rfl (by decide) rfl wl_118 dX10_drift_31 ?_
        refine gm_sipush (v := 9000) C dX10_drift_34 (by decide) ?_
        refine gm_icmp_le C 43 dX10_drift_37 (by decide) (fun c4 => ?_) (fun c4 => ?_)
        · have hf := gm_it _ c4 hf
          refine gm_aload_n C dX10_drift_43 rfl 0 rfl ?_
          refine gm_getr (j := 22) (u := 22) C (Nat.le_of_ble_eq_true rfl) rfl kc_10 (k := 3) rfl (by decide) rfl rfl wl_331 dX10_drift_44 ?_
          refine gm_aload_n C dX10_drift_47 rfl 0 rfl ?_
          refine gm_getr (j := 8) (u := 8) C (Nat.le_of_ble_eq_true rfl) rfl kc_10 (k := 1) rfl (by decide) rfl rfl wl_329 dX10_drift_48 ?_
          obtain ⟨S5, eS5, hf⟩ := gm_bp1_s hf
          refine gm_callVv (As := [.ref (ad 8)]) C (Ps_remember_c l cf ad eS5) (Nat.le_of_ble_eq_true rfl) rfl kc_4 wy_Ps_remember rfl wl_673 rfl ⟨(Nat.le_of_ble_eq_true rfl), (Nat.le_of_ble_eq_true rfl)⟩ rfl (Nat.le_of_ble_eq_true rfl) dX10_drift_51 ?_
          refine gm_iconst (v := 0) C dX10_drift_54 (by decide) ?_
          refine gm_istore_n (lv' := [(2, .int 0), (0, .ref (ad 0)), (1, .int a0)]) C dX10_drift_55 rfl (by decide) rfl ?_
          have L56 : ∀ (n : Nat) (y6 : Int32) (S7 : gm_M) (S8 : gm_M), Lt_drift_L56 fl a0 n y6 S7 = some (S8) → gm_G p l e { frames := 6, cells := 0, slots := 0, locals := 129 } s m args below meth c (MQ below (gm_Q cf ad gm_sC 106 (some (.int r)) S') args s 0 0 (gm_A ad 106)) cf ad gm_sC 106 3 S8 71 [(0, .ref (ad 0))] [] → gm_G p l e { frames := 6, cells := 0, slots := 0, locals := 129 } s m args below meth c (MQ below (gm_Q cf ad gm_sC 106 (some (.int r)) S') args s 0 0 (gm_A ad 106)) cf ad gm_sC 106 3 S7 56 [(0, .ref (ad 0)), (1, .int a0), (2, .int y6)] [] := by
            intro n
            induction n with
            | zero => intro y6 S7 S8 hf K; cases (show (none : Option _) = some _ from hf)
            | succ n ih =>
              intro y6 S7 S8 hf K
              have hf : Lt_drift_L56_b fl a0 (Lt_drift_L56 fl a0 n) y6 S7 = some (S8) := hf
              unfold Lt_drift_L56_b at hf
              refine gm_iload_n C dX10_drift_56 rfl 2 rfl ?_
              refine gm_iload_n C dX10_drift_57 rfl 1 rfl ?_
              refine gm_icmp_ge C 71 dX10_drift_58 (by decide) (fun c9 => ?_) (fun c9 => ?_)
              · have hf := gm_it _ c9 hf
                cases hf
                exact gm_lvp [0] rfl K
              · have hf := gm_if _ c9 hf
                refine gm_aload_n C dX10_drift_61 rfl 0 rfl ?_
                obtain ⟨S10, eS10, hf⟩ := gm_bp1_s hf
                refine gm_callVv (As := []) C (Lt_liveOneDay_c l cf ad eS10) (Nat.le_of_ble_eq_true rfl) rfl kc_10 wy_Lt_liveOneDay rfl wl_734 rfl ⟨(Nat.le_of_ble_eq_true rfl), (Nat.le_of_ble_eq_true rfl)⟩ rfl (Nat.le_of_ble_eq_true rfl) dX10_drift_62 ?_
                obtain ⟨x11, ex11, hf⟩ := gm_lt_s hf
                refine gm_iinc (v := x11) (lv' := [(2, .int x11), (0, .ref (ad 0)), (1, .int a0)]) (j := 2) C dX10_drift_65 rfl (by rw [ex11]; rfl) (by decide) rfl ?_
                refine gm_goto C 56 dX10_drift_68 (by decide) ?_
                exact gm_lvp [1, 2, 0] rfl (ih _ _ _ hf K)
          obtain ⟨S8, hx, hf⟩ := gm_bp1_s hf
          refine gm_lvp [1, 2, 0] rfl (L56 fl _ _ _ hx ?_)
          refine gm_aload_n C dX10_drift_71 rfl 0 rfl ?_
          refine gm_getr (j := 8) (u := 8) C (Nat.le_of_ble_eq_true rfl) rfl kc_10 (k := 1) rfl (by decide) rfl rfl wl_329 dX10_drift_72 ?_
          refine gm_geti C (Nat.le_of_ble_eq_true rfl) rfl kc_9 (k := 5) rfl (by decide) rfl wl_118 dX10_drift_75 ?_
          exact gm_iret C hr rfl dX10_drift_78 hf
        · have hf := gm_if _ c4 hf
          refine gm_ldc (v := (-1000000004)) C wl_365 dX10_drift_40 ?_
          exact gm_iret C hr rfl dX10_drift_42 hf
      · have hf := gm_it _ c3 hf
        refine gm_ldc (v := (-1000000003)) C wl_672 dX10_drift_24 ?_
        exact gm_iret C hr rfl dX10_drift_26 hf
    · have hf := gm_if _ c2 hf
      refine gm_ldc (v := (-1000000002)) C wl_360 dX10_drift_11 ?_
      exact gm_iret C hr rfl dX10_drift_13 hf
theorem dX4_takeBack_0 : decode cX4_takeBack 0 = .ok (.aload_n 0, 1) := by decide +kernel
theorem dX4_takeBack_1 : decode cX4_takeBack 1 = .ok (.getfield 26, 3) := by decide +kernel
theorem dX4_takeBack_4 : decode cX4_takeBack 4 = .ok (.ifCond .le 48, 3) := by decide +kernel
theorem dX4_takeBack_7 : decode cX4_takeBack 7 = .ok (.aload_n 1, 1) := by decide +kernel
theorem dX4_takeBack_8 : decode cX4_takeBack 8 = .ok (.aload_n 0, 1) := by decide +kernel
theorem dX4_takeBack_9 : decode cX4_takeBack 9 = .ok (.getfield 11, 3) := by decide +kernel
theorem dX4_takeBack_12 : decode cX4_takeBack 12 = .ok (.aload_n 0, 1) := by decide +kernel
theorem dX4_takeBack_13 : decode cX4_takeBack 13 = .ok (.getfield 18, 3) := by decide +kernel
theorem dX4_takeBack_16 : decode cX4_takeBack 16 = .ok (.aaload, 1) := by decide +kernel
theorem dX4_takeBack_17 : decode cX4_takeBack 17 = .ok (.invokevirtual 22, 3) := by decide +kernel
theorem dX4_takeBack_20 : decode cX4_takeBack 20 = .ok (.aload_n 0, 1) := by decide +kernel
theorem dX4_takeBack_21 : decode cX4_takeBack 21 = .ok (.aload_n 0, 1) := by decide +kernel
theorem dX4_takeBack_22 : decode cX4_takeBack 22 = .ok (.getfield 18, 3) := by decide +kernel
theorem dX4_takeBack_25 : decode cX4_takeBack 25 = .ok (.ifCond .le 12, 3) := by decide +kernel
theorem dX4_takeBack_28 : decode cX4_takeBack 28 = .ok (.aload_n 0, 1) := by decide +kernel
theorem dX4_takeBack_29 : decode cX4_takeBack 29 = .ok (.getfield 18, 3) := by decide +kernel
theorem dX4_takeBack_32 : decode cX4_takeBack 32 = .ok (.iconst 1, 1) := by decide +kernel
theorem dX4_takeBack_33 : decode cX4_takeBack 33 = .ok (.isub, 1) := by decide +kernel
theorem dX4_takeBack_34 : decode cX4_takeBack 34 = .ok (.goto 5, 3) := by decide +kernel
theorem dX4_takeBack_37 : decode cX4_takeBack 37 = .ok (.bipush 15, 2) := by decide +kernel
theorem dX4_takeBack_39 : decode cX4_takeBack 39 = .ok (.putfield 18, 3) := by decide +kernel
theorem dX4_takeBack_42 : decode cX4_takeBack 42 = .ok (.aload_n 0, 1) := by decide +kernel
theorem dX4_takeBack_43 : decode cX4_takeBack 43 = .ok (.dup, 1) := by decide +kernel
theorem dX4_takeBack_44 : decode cX4_takeBack 44 = .ok (.getfield 26, 3) := by decide +kernel
theorem dX4_takeBack_47 : decode cX4_takeBack 47 = .ok (.iconst 1, 1) := by decide +kernel
theorem dX4_takeBack_48 : decode cX4_takeBack 48 = .ok (.isub, 1) := by decide +kernel
theorem dX4_takeBack_49 : decode cX4_takeBack 49 = .ok (.putfield 26, 3) := by decide +kernel
theorem dX4_takeBack_52 : decode cX4_takeBack 52 = .ok (.return_, 1) := by decide +kernel
def Ps_takeBack (S : gm_M) : Option gm_M :=
  if S.1 22 2 ≤ 0 then (
    some S
  ) else (
    gm_ck (S.1 22 1) 16 <|
    gm_bp1 (Tr_copyFrom 8 (24 + 4 * (S.1 22 1).toNatClampNeg) S) fun S4 =>
    gm_bp1 (show Option (Int32) from
      if S4.1 22 1 ≤ 0 then (
        some (15)
      ) else (
        some ((S4.1 22 1) - 1)
      )
    ) fun x5 =>
    gm_lt (α := gm_M) (gm_ui S4 22 1 x5) fun S6 =>
    gm_lt (α := gm_M) (gm_ui S6 22 2 ((S6.1 22 2) - 1)) fun S7 =>
    some S7
  )
set_option maxHeartbeats 4000000 in
set_option maxRecDepth 100000 in
theorem Ps_takeBack_c (l : Launch) (cf : gm_C) (ad : Nat → Nat)     {S : gm_M}  {S'  : gm_M} (hf : Ps_takeBack S = some S') : gm_Met l yX4_takeBack cX4_takeBack 2 none 2 61 cf ad gm_sC 106 [.ref (ad 22), .ref (ad 8)] S none S' := by
  refine gm_met (by decide +kernel) (Nat.le_of_ble_eq_true rfl) ?_
  intro p e s m args below meth c C hr
  have C : gm_F p s m args meth c cf ad 106 cX4_takeBack 2 RX4 := C
  refine gm_lve (lv' := [(0, .ref (ad 22)), (1, .ref (ad 8))]) rfl ?_
  unfold Ps_takeBack at hf
  refine gm_aload_n C dX4_takeBack_0 rfl 0 rfl ?_
  refine gm_geti C (Nat.le_of_ble_eq_true rfl) rfl kc_4 (k := 2) rfl (by decide) rfl wl_246 dX4_takeBack_1 ?_
  refine gm_if_le C 52 dX4_takeBack_4 (by decide) (fun c1 => ?_) (fun c1 => ?_)
  · have hf := gm_it _ c1 hf
    exact gm_vret C hr dX4_takeBack_52 hf
  · have hf := gm_if _ c1 hf
    refine gm_aload_n C dX4_takeBack_7 rfl 1 rfl ?_
    refine gm_aload_n C dX4_takeBack_8 rfl 0 rfl ?_
    refine gm_getr (j := 1) (u := 23) C (Nat.le_of_ble_eq_true rfl) rfl kc_4 (k := 0) rfl (by decide) rfl rfl wl_244 dX4_takeBack_9 ?_
    refine gm_aload_n C dX4_takeBack_12 rfl 0 rfl ?_
    refine gm_geti C (Nat.le_of_ble_eq_true rfl) rfl kc_4 (k := 1) rfl (by decide) rfl wl_245 dX4_takeBack_13 ?_
    obtain ⟨h2, hf⟩ := gm_ck_s hf
    refine gm_aald (k := 5) C (Nat.le_of_ble_eq_true rfl) rfl (by decide) rfl rfl h2 dX4_takeBack_16 ?_
    have h3 := gm_of_tr h2
    obtain ⟨S4, eS4, hf⟩ := gm_bp1_s hf
    refine gm_callVv (As := [.ref (ad (24 + 4 * (S.1 22 1).toNatClampNeg))]) C (Tr_copyFrom_c l cf ad gm_tr_8 h3 eS4) (Nat.le_of_ble_eq_true rfl) rfl kc_9 wy_Tr_copyFrom rfl wl_677 rfl ⟨(Nat.le_of_ble_eq_true rfl), (Nat.le_of_ble_eq_true rfl)⟩ rfl (Nat.le_of_ble_eq_true rfl) dX4_takeBack_17 ?_
    refine gm_aload_n C dX4_takeBack_20 rfl 0 rfl ?_
    refine gm_aload_n C dX4_takeBack_21 rfl 0 rfl ?_
    refine gm_geti C (Nat.le_of_ble_eq_true rfl) rfl kc_4 (k := 1) rfl (by decide) rfl wl_245 dX4_takeBack_22 ?_
    obtain ⟨x5, hx, hf⟩ := gm_bp1_s hf
    have key : gm_G p l e { frames := 2, cells := 0, slots := 0, locals := 61 } s m args below meth c (MQ below (gm_Q cf ad gm_sC 106 none S') args s 0 0 (gm_A ad 106)) cf ad gm_sC 106 2 S4 39 [(0, .ref (ad 22))] [.int x5, .ref (ad 22)] := by
      refine gm_puti C (Nat.le_of_ble_eq_true rfl) rfl kc_4 (k := 1) rfl (by decide) rfl rfl (kc_4.2.2.2.1 1 (by decide)) rfl rfl wl_245 dX4_takeBack_39 ?_
      obtain ⟨S6, eS6, hf⟩ := gm_lt_s hf
      refine gm_topm eS6 ?_
      refine gm_aload_n C dX4_takeBack_42 rfl 0 rfl ?_
      refine gm_dup C dX4_takeBack_43 rfl ?_
      refine gm_geti C (Nat.le_of_ble_eq_true rfl) rfl kc_4 (k := 2) rfl (by decide) rfl wl_246 dX4_takeBack_44 ?_
      refine gm_iconst (v := 1) C dX4_takeBack_47 (by decide) ?_
      refine gm_isub C dX4_takeBack_48 ?_
      refine gm_puti C (Nat.le_of_ble_eq_true rfl) rfl kc_4 (k := 2) rfl (by decide) rfl rfl (kc_4.2.2.2.1 2 (by decide)) rfl rfl wl_246 dX4_takeBack_49 ?_
      obtain ⟨S7, eS7, hf⟩ := gm_lt_s hf
      refine gm_topm eS7 ?_
      exact gm_vret C hr dX4_takeBack_52 hf
    have hf := hx
    refine gm_if_le C 37 dX4_takeBack_25 (by decide) (fun c8 => ?_) (fun c8 => ?_)
    · have hf := gm_it _ c8 hf
      refine gm_bipush (v := 15) C dX4_takeBack_37 (by decide) ?_
      cases hf
      exact gm_lvp [0] rfl key
    · have hf := gm_if _ c8 hf
      refine gm_aload_n C dX4_takeBack_28 rfl 0 rfl ?_
      refine gm_geti C (Nat.le_of_ble_eq_true rfl) rfl kc_4 (k := 1) rfl (by decide) rfl wl_245 dX4_takeBack_29 ?_
      refine gm_iconst (v := 1) C dX4_takeBack_32 (by decide) ?_
      refine gm_isub C dX4_takeBack_33 ?_
      refine gm_goto C 39 dX4_takeBack_34 (by decide) ?_
      cases hf
      exact gm_lvp [0] rfl key
theorem dX10_undo_0 : decode cX10_undo 0 = .ok (.aload_n 0, 1) := by decide +kernel
theorem dX10_undo_1 : decode cX10_undo 1 = .ok (.getfield 33, 3) := by decide +kernel
theorem dX10_undo_4 : decode cX10_undo 4 = .ok (.getfield 94, 3) := by decide +kernel
theorem dX10_undo_7 : decode cX10_undo 7 = .ok (.ifCond .ne 6, 3) := by decide +kernel
theorem dX10_undo_10 : decode cX10_undo 10 = .ok (.ldc 201, 2) := by decide +kernel
theorem dX10_undo_12 : decode cX10_undo 12 = .ok (.ireturn, 1) := by decide +kernel
theorem dX10_undo_13 : decode cX10_undo 13 = .ok (.aload_n 0, 1) := by decide +kernel
theorem dX10_undo_14 : decode cX10_undo 14 = .ok (.getfield 33, 3) := by decide +kernel
theorem dX10_undo_17 : decode cX10_undo 17 = .ok (.aload_n 0, 1) := by decide +kernel
theorem dX10_undo_18 : decode cX10_undo 18 = .ok (.getfield 19, 3) := by decide +kernel
theorem dX10_undo_21 : decode cX10_undo 21 = .ok (.invokevirtual 228, 3) := by decide +kernel
theorem dX10_undo_24 : decode cX10_undo 24 = .ok (.aload_n 0, 1) := by decide +kernel
theorem dX10_undo_25 : decode cX10_undo 25 = .ok (.getfield 26, 3) := by decide +kernel
theorem dX10_undo_28 : decode cX10_undo 28 = .ok (.aload_n 0, 1) := by decide +kernel
theorem dX10_undo_29 : decode cX10_undo 29 = .ok (.getfield 19, 3) := by decide +kernel
theorem dX10_undo_32 : decode cX10_undo 32 = .ok (.invokevirtual 91, 3) := by decide +kernel
theorem dX10_undo_35 : decode cX10_undo 35 = .ok (.aload_n 0, 1) := by decide +kernel
theorem dX10_undo_36 : decode cX10_undo 36 = .ok (.getfield 33, 3) := by decide +kernel
theorem dX10_undo_39 : decode cX10_undo 39 = .ok (.getfield 94, 3) := by decide +kernel
theorem dX10_undo_42 : decode cX10_undo 42 = .ok (.ireturn, 1) := by decide +kernel
def Lt_undo (fl : Nat) (S : gm_M) : Option (Int32 × gm_M) :=
  if S.1 22 2 = 0 then (
    some ((-1000000003), S)
  ) else (
    gm_bp1 (Ps_takeBack S) fun S2 =>
    gm_bp1 (Tb_follow fl S2) fun S3 =>
    some (S3.1 22 2, S3)
  )
set_option maxHeartbeats 4000000 in
set_option maxRecDepth 100000 in
theorem Lt_undo_c (l : Launch) (cf : gm_C) (ad : Nat → Nat) {fl : Nat}    {S : gm_M} {r : Int32} {S'  : gm_M} (hf : Lt_undo fl S = some (r, S')) : gm_Met l yX10_undo cX10_undo 1 (some .int) 5 103 cf ad gm_sC 106 [.ref (ad 0)] S (some (.int r)) S' := by
  refine gm_met (by decide +kernel) (Nat.le_of_ble_eq_true rfl) ?_
  intro p e s m args below meth c C hr
  have C : gm_F p s m args meth c cf ad 106 cX10_undo 1 RX10 := C
  refine gm_lve (lv' := [(0, .ref (ad 0))]) rfl ?_
  unfold Lt_undo at hf
  refine gm_aload_n C dX10_undo_0 rfl 0 rfl ?_
  refine gm_getr (j := 22) (u := 22) C (Nat.le_of_ble_eq_true rfl) rfl kc_10 (k := 3) rfl (by decide) rfl rfl wl_331 dX10_undo_1 ?_
  refine gm_geti C (Nat.le_of_ble_eq_true rfl) rfl kc_4 (k := 2) rfl (by decide) rfl wl_247 dX10_undo_4 ?_
  refine gm_if_ne C 13 dX10_undo_7 (by decide) (fun c1 => ?_) (fun c1 => ?_)
  · have hf := gm_if _ c1 hf
    refine gm_aload_n C dX10_undo_13 rfl 0 rfl ?_
    refine gm_getr (j := 22) (u := 22) C (Nat.le_of_ble_eq_true rfl) rfl kc_10 (k := 3) rfl (by decide) rfl rfl wl_331 dX10_undo_14 ?_
    refine gm_aload_n C dX10_undo_17 rfl 0 rfl ?_
    refine gm_getr (j := 8) (u := 8) C (Nat.le_of_ble_eq_true rfl) rfl kc_10 (k := 1) rfl (by decide) rfl rfl wl_329 dX10_undo_18 ?_
    obtain ⟨S2, eS2, hf⟩ := gm_bp1_s hf
    refine gm_callVv (As := [.ref (ad 8)]) C (Ps_takeBack_c l cf ad eS2) (Nat.le_of_ble_eq_true rfl) rfl kc_4 wy_Ps_takeBack rfl wl_751 rfl ⟨(Nat.le_of_ble_eq_true rfl), (Nat.le_of_ble_eq_true rfl)⟩ rfl (Nat.le_of_ble_eq_true rfl) dX10_undo_21 ?_
    refine gm_aload_n C dX10_undo_24 rfl 0 rfl ?_
    refine gm_getr (j := 12) (u := 12) C (Nat.le_of_ble_eq_true rfl) rfl kc_10 (k := 2) rfl (by decide) rfl rfl wl_330 dX10_undo_25 ?_
    refine gm_aload_n C dX10_undo_28 rfl 0 rfl ?_
    refine gm_getr (j := 8) (u := 8) C (Nat.le_of_ble_eq_true rfl) rfl kc_10 (k := 1) rfl (by decide) rfl rfl wl_329 dX10_undo_29 ?_
    obtain ⟨S3, eS3, hf⟩ := gm_bp1_s hf
    refine gm_callVv (As := [.ref (ad 8)]) C (Tb_follow_c l cf ad eS3) (Nat.le_of_ble_eq_true rfl) rfl kc_3 wy_Tb_follow rfl wl_480 rfl ⟨(Nat.le_of_ble_eq_true rfl), (Nat.le_of_ble_eq_true rfl)⟩ rfl (Nat.le_of_ble_eq_true rfl) dX10_undo_32 ?_
    refine gm_aload_n C dX10_undo_35 rfl 0 rfl ?_
    refine gm_getr (j := 22) (u := 22) C (Nat.le_of_ble_eq_true rfl) rfl kc_10 (k := 3) rfl (by decide) rfl rfl wl_331 dX10_undo_36 ?_
    refine gm_geti C (Nat.le_of_ble_eq_true rfl) rfl kc_4 (k := 2) rfl (by decide) rfl wl_247 dX10_undo_39 ?_
    exact gm_iret C hr rfl dX10_undo_42 hf
  · have hf := gm_it _ c1 hf
    refine gm_ldc (v := (-1000000003)) C wl_672 dX10_undo_10 ?_
    exact gm_iret C hr rfl dX10_undo_12 hf
theorem dX3_nextFrom_0 : decode cX3_nextFrom 0 = .ok (.iload_n 1, 1) := by decide +kernel
theorem dX3_nextFrom_1 : decode cX3_nextFrom 1 = .ok (.istore_n 2, 1) := by decide +kernel
theorem dX3_nextFrom_2 : decode cX3_nextFrom 2 = .ok (.iload_n 2, 1) := by decide +kernel
theorem dX3_nextFrom_3 : decode cX3_nextFrom 3 = .ok (.aload_n 0, 1) := by decide +kernel
theorem dX3_nextFrom_4 : decode cX3_nextFrom 4 = .ok (.getfield 42, 3) := by decide +kernel
theorem dX3_nextFrom_7 : decode cX3_nextFrom 7 = .ok (.if_icmp .ge 19, 3) := by decide +kernel
theorem dX3_nextFrom_10 : decode cX3_nextFrom 10 = .ok (.aload_n 0, 1) := by decide +kernel
theorem dX3_nextFrom_11 : decode cX3_nextFrom 11 = .ok (.iload_n 2, 1) := by decide +kernel
theorem dX3_nextFrom_12 : decode cX3_nextFrom 12 = .ok (.invokevirtual 93, 3) := by decide +kernel
theorem dX3_nextFrom_15 : decode cX3_nextFrom 15 = .ok (.ifCond .eq 5, 3) := by decide +kernel
theorem dX3_nextFrom_18 : decode cX3_nextFrom 18 = .ok (.iload_n 2, 1) := by decide +kernel
theorem dX3_nextFrom_19 : decode cX3_nextFrom 19 = .ok (.ireturn, 1) := by decide +kernel
theorem dX3_nextFrom_20 : decode cX3_nextFrom 20 = .ok (.iinc 2 1, 3) := by decide +kernel
theorem dX3_nextFrom_23 : decode cX3_nextFrom 23 = .ok (.goto (-21), 3) := by decide +kernel
theorem dX3_nextFrom_26 : decode cX3_nextFrom 26 = .ok (.iconst (-1), 1) := by decide +kernel
theorem dX3_nextFrom_27 : decode cX3_nextFrom 27 = .ok (.ireturn, 1) := by decide +kernel
def Tb_nextFrom_L2_b (S : gm_M) (rec : Int32 → Option Int32) (y1 : Int32) : Option Int32 :=
  if S.1 12 5 ≤ y1 then (
    some ((-1))
  ) else (
    gm_bp1 (Tb_isLucky y1 S) fun v3 =>
    if v3 = 0 then (
      gm_lt (α := Int32) (y1 + 1) fun x5 =>
      rec x5
    ) else (
      some (y1)
    )
  )
def Tb_nextFrom_L2 (S : gm_M) : Nat → Int32 → Option Int32
  | 0 => fun _ => none
  | n + 1 => Tb_nextFrom_L2_b S (Tb_nextFrom_L2 S n)
def Tb_nextFrom (fl : Nat) (a0 : Int32) (S : gm_M) : Option Int32 :=
  Tb_nextFrom_L2 S fl a0
set_option maxHeartbeats 4000000 in
set_option maxRecDepth 100000 in
theorem Tb_nextFrom_c (l : Launch) (cf : gm_C) (ad : Nat → Nat) {fl : Nat}   {a0 : Int32} {S : gm_M} {r : Int32}  (hf : Tb_nextFrom fl a0 S = some r) : gm_Met l yX3_nextFrom cX3_nextFrom 3 (some .int) 1 21 cf ad gm_sC 106 [.ref (ad 12), .int a0] S (some (.int r)) S := by
  refine gm_met (by decide +kernel) (Nat.le_of_ble_eq_true rfl) ?_
  intro p e s m args below meth c C hr
  have C : gm_F p s m args meth c cf ad 106 cX3_nextFrom 3 RX3 := C
  refine gm_lve (lv' := [(0, .ref (ad 12)), (1, .int a0)]) rfl ?_
  unfold Tb_nextFrom at hf
  refine gm_iload_n C dX3_nextFrom_0 rfl 1 rfl ?_
  refine gm_istore_n (lv' := [(2, .int a0), (0, .ref (ad 12)), (1, .int a0)]) C dX3_nextFrom_1 rfl (by decide) rfl ?_
  have L2 : ∀ (n : Nat) (y1 : Int32), Tb_nextFrom_L2 S n y1 = some r → gm_G p l e { frames := 1, cells := 0, slots := 0, locals := 21 } s m args below meth c (MQ below (gm_Q cf ad gm_sC 106 (some (.int r)) S) args s 0 0 (gm_A ad 106)) cf ad gm_sC 106 3 S 2 [(0, .ref (ad 12)), (2, .int y1)] [] := by
    intro n
    induction n with
    | zero => intro y1 hf; cases (show (none : Option _) = some _ from hf)
    | succ n ih =>
      intro y1 hf
      have hf : Tb_nextFrom_L2_b S (Tb_nextFrom_L2 S n) y1 = some r := hf
      unfold Tb_nextFrom_L2_b at hf
      refine gm_iload_n C dX3_nextFrom_2 rfl 1 rfl ?_
      refine gm_aload_n C dX3_nextFrom_3 rfl 0 rfl ?_
      refine gm_geti C (Nat.le_of_ble_eq_true rfl) rfl kc_3 (k := 5) rfl (by decide) rfl wl_208 dX3_nextFrom_4 ?_
      refine gm_icmp_ge C 26 dX3_nextFrom_7 (by decide) (fun c2 => ?_) (fun c2 => ?_)
      · have hf := gm_it _ c2 hf
        refine gm_iconst (v := (-1)) C dX3_nextFrom_26 (by decide) ?_
        exact gm_iretK C hr rfl dX3_nextFrom_27 hf
      · have hf := gm_if _ c2 hf
        refine gm_aload_n C dX3_nextFrom_10 rfl 0 rfl ?_
        refine gm_iload_n C dX3_nextFrom_11 rfl 1 rfl ?_
        obtain ⟨v3, ev3, hf⟩ := gm_bp1_s hf
        refine gm_callVi (As := [.int y1]) C (Tb_isLucky_c l cf ad ev3) (Nat.le_of_ble_eq_true rfl) rfl kc_3 wy_Tb_isLucky rfl wl_763 rfl ⟨(Nat.le_of_ble_eq_true rfl), (Nat.le_of_ble_eq_true rfl)⟩ rfl (Nat.le_of_ble_eq_true rfl) dX3_nextFrom_12 ?_
        refine gm_if_eq C 20 dX3_nextFrom_15 (by decide) (fun c4 => ?_) (fun c4 => ?_)
        · have hf := gm_it _ c4 hf
          obtain ⟨x5, ex5, hf⟩ := gm_lt_s hf
          refine gm_iinc (v := x5) (lv' := [(2, .int x5), (0, .ref (ad 12))]) (j := 1) C dX3_nextFrom_20 rfl (by rw [ex5]; rfl) (by decide) rfl ?_
          refine gm_goto C 2 dX3_nextFrom_23 (by decide) ?_
          exact gm_lvp [1, 0] rfl (ih _ hf)
        · have hf := gm_if _ c4 hf
          refine gm_iload_n C dX3_nextFrom_18 rfl 1 rfl ?_
          exact gm_iretK C hr rfl dX3_nextFrom_19 hf
  exact gm_lvp [1, 0] rfl (L2 fl _ hf)
theorem dX10_next_0 : decode cX10_next 0 = .ok (.aload_n 0, 1) := by decide +kernel
theorem dX10_next_1 : decode cX10_next 1 = .ok (.getfield 19, 3) := by decide +kernel
theorem dX10_next_4 : decode cX10_next 4 = .ok (.iload_n 1, 1) := by decide +kernel
theorem dX10_next_5 : decode cX10_next 5 = .ok (.invokevirtual 192, 3) := by decide +kernel
theorem dX10_next_8 : decode cX10_next 8 = .ok (.ifCond .eq 14, 3) := by decide +kernel
theorem dX10_next_11 : decode cX10_next 11 = .ok (.aload_n 0, 1) := by decide +kernel
theorem dX10_next_12 : decode cX10_next 12 = .ok (.getfield 26, 3) := by decide +kernel
theorem dX10_next_15 : decode cX10_next 15 = .ok (.iload_n 1, 1) := by decide +kernel
theorem dX10_next_16 : decode cX10_next 16 = .ok (.invokevirtual 231, 3) := by decide +kernel
theorem dX10_next_19 : decode cX10_next 19 = .ok (.goto 5, 3) := by decide +kernel
theorem dX10_next_22 : decode cX10_next 22 = .ok (.ldc 62, 2) := by decide +kernel
theorem dX10_next_24 : decode cX10_next 24 = .ok (.ireturn, 1) := by decide +kernel
def Lt_next (fl : Nat) (a0 : Int32) (S : gm_M) : Option Int32 :=
  gm_bp1 (Tr_hasNumber fl 8 a0 S) fun v1 =>
  if v1 = 0 then (
    some ((-1000000002))
  ) else (
    gm_bp1 (Tb_nextFrom fl a0 S) fun v3 =>
    some (v3)
  )
set_option maxHeartbeats 4000000 in
set_option maxRecDepth 100000 in
theorem Lt_next_c (l : Launch) (cf : gm_C) (ad : Nat → Nat) {fl : Nat}   {a0 : Int32} {S : gm_M} {r : Int32}  (hf : Lt_next fl a0 S = some r) : gm_Met l yX10_next cX10_next 2 (some .int) 2 43 cf ad gm_sC 106 [.ref (ad 0), .int a0] S (some (.int r)) S := by
  refine gm_met (by decide +kernel) (Nat.le_of_ble_eq_true rfl) ?_
  intro p e s m args below meth c C hr
  have C : gm_F p s m args meth c cf ad 106 cX10_next 2 RX10 := C
  refine gm_lve (lv' := [(0, .ref (ad 0)), (1, .int a0)]) rfl ?_
  unfold Lt_next at hf
  refine gm_aload_n C dX10_next_0 rfl 0 rfl ?_
  refine gm_getr (j := 8) (u := 8) C (Nat.le_of_ble_eq_true rfl) rfl kc_10 (k := 1) rfl (by decide) rfl rfl wl_329 dX10_next_1 ?_
  refine gm_iload_n C dX10_next_4 rfl 1 rfl ?_
  obtain ⟨v1, ev1, hf⟩ := gm_bp1_s hf
  refine gm_callVi (As := [.int a0]) C (Tr_hasNumber_c l cf ad gm_tr_8 ev1) (Nat.le_of_ble_eq_true rfl) rfl kc_9 wy_Tr_hasNumber rfl wl_660 rfl ⟨(Nat.le_of_ble_eq_true rfl), (Nat.le_of_ble_eq_true rfl)⟩ rfl (Nat.le_of_ble_eq_true rfl) dX10_next_5 ?_
  refine gm_if_eq C 22 dX10_next_8 (by decide) (fun c2 => ?_) (fun c2 => ?_)
  · have hf := gm_it _ c2 hf
    refine gm_ldc (v := (-1000000002)) C wl_360 dX10_next_22 ?_
    exact gm_iretK C hr rfl dX10_next_24 hf
  · have hf := gm_if _ c2 hf
    refine gm_aload_n C dX10_next_11 rfl 0 rfl ?_
    refine gm_getr (j := 12) (u := 12) C (Nat.le_of_ble_eq_true rfl) rfl kc_10 (k := 2) rfl (by decide) rfl rfl wl_330 dX10_next_12 ?_
    refine gm_iload_n C dX10_next_15 rfl 1 rfl ?_
    obtain ⟨v3, ev3, hf⟩ := gm_bp1_s hf
    refine gm_callVi (As := [.int a0]) C (Tb_nextFrom_c l cf ad ev3) (Nat.le_of_ble_eq_true rfl) rfl kc_3 wy_Tb_nextFrom rfl wl_759 rfl ⟨(Nat.le_of_ble_eq_true rfl), (Nat.le_of_ble_eq_true rfl)⟩ rfl (Nat.le_of_ble_eq_true rfl) dX10_next_16 ?_
    refine gm_goto C 24 dX10_next_19 (by decide) ?_
    exact gm_iretK C hr rfl dX10_next_24 hf
