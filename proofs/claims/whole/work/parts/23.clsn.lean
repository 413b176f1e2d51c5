theorem dX10_see_0 : decode cX10_see 0 = .ok (.aload_n 0, 1) := by decide +kernel
theorem dX10_see_1 : decode cX10_see 1 = .ok (.getfield 19, 3) := by decide +kernel
theorem dX10_see_4 : decode cX10_see 4 = .ok (.iload_n 1, 1) := by decide +kernel
theorem dX10_see_5 : decode cX10_see 5 = .ok (.invokevirtual 192, 3) := by decide +kernel
theorem dX10_see_8 : decode cX10_see 8 = .ok (.ifCond .ne 6, 3) := by decide +kernel
theorem dX10_see_11 : decode cX10_see 11 = .ok (.ldc 62, 2) := by decide +kernel
theorem dX10_see_13 : decode cX10_see 13 = .ok (.ireturn, 1) := by decide +kernel
theorem dX10_see_14 : decode cX10_see 14 = .ok (.aload_n 0, 1) := by decide +kernel
theorem dX10_see_15 : decode cX10_see 15 = .ok (.getfield 40, 3) := by decide +kernel
theorem dX10_see_18 : decode cX10_see 18 = .ok (.getfield 132, 3) := by decide +kernel
theorem dX10_see_21 : decode cX10_see 21 = .ok (.bipush 8, 2) := by decide +kernel
theorem dX10_see_23 : decode cX10_see 23 = .ok (.if_icmp .lt 6, 3) := by decide +kernel
theorem dX10_see_26 : decode cX10_see 26 = .ok (.ldc 76, 2) := by decide +kernel
theorem dX10_see_28 : decode cX10_see 28 = .ok (.ireturn, 1) := by decide +kernel
theorem dX10_see_29 : decode cX10_see 29 = .ok (.aload_n 0, 1) := by decide +kernel
theorem dX10_see_30 : decode cX10_see 30 = .ok (.getfield 40, 3) := by decide +kernel
theorem dX10_see_33 : decode cX10_see 33 = .ok (.iload_n 1, 1) := by decide +kernel
theorem dX10_see_34 : decode cX10_see 34 = .ok (.iload_n 2, 1) := by decide +kernel
theorem dX10_see_35 : decode cX10_see 35 = .ok (.invokevirtual 247, 3) := by decide +kernel
theorem dX10_see_38 : decode cX10_see 38 = .ok (.aload_n 0, 1) := by decide +kernel
theorem dX10_see_39 : decode cX10_see 39 = .ok (.getfield 40, 3) := by decide +kernel
theorem dX10_see_42 : decode cX10_see 42 = .ok (.getfield 132, 3) := by decide +kernel
theorem dX10_see_45 : decode cX10_see 45 = .ok (.ireturn, 1) := by decide +kernel
def Lt_see (fl : Nat) (a0 : Int32) (a1 : Int32) (S : gm_M) : Option (Int32 × gm_M) :=
  gm_bp1 (Tr_hasNumber fl 8 a0 S) fun v1 =>
  if v1 = 0 then (
    some ((-1000000002), S)
  ) else (
    if S.1 88 3 < 8 then (
      gm_bp1 (Gs_takeIn fl a0 a1 S) fun S4 =>
      some (S4.1 88 3, S4)
    ) else (
      some ((-1000000004), S)
    )
  )
set_option maxHeartbeats 4000000 in
set_option maxRecDepth 100000 in
theorem Lt_see_c (l : Launch) (cf : gm_C) (ad : Nat → Nat) {fl : Nat}   {a0 : Int32} {a1 : Int32} {S : gm_M} {r : Int32} {S'  : gm_M} (hf : Lt_see fl a0 a1 S = some (r, S')) : gm_Met l yX10_see cX10_see 3 (some .int) 4 82 cf ad gm_sC 106 [.ref (ad 0), .int a0, .int a1] S (some (.int r)) S' := by
  refine gm_met (by decide +kernel) (Nat.le_of_ble_eq_true rfl) ?_
  intro p e s m args below meth c C hr
  have C : gm_F p s m args meth c cf ad 106 cX10_see 3 RX10 := C
  refine gm_lve (lv' := [(0, .ref (ad 0)), (1, .int a0), (2, .int a1)]) rfl ?_
  unfold Lt_see at hf
  refine gm_aload_n C dX10_see_0 rfl 0 rfl ?_
  refine gm_getr (j := 8) (u := 8) C (Nat.le_of_ble_eq_true rfl) rfl kc_10 (k := 1) rfl (by decide) rfl rfl wl_329 dX10_see_1 ?_
  refine gm_iload_n C dX10_see_4 rfl 1 rfl ?_
  obtain ⟨v1, ev1, hf⟩ := gm_bp1_s hf
  refine gm_callVi (As := [.int a0]) C (Tr_hasNumber_c l cf ad gm_tr_8 ev1) (Nat.le_of_ble_eq_true rfl) rfl kc_9 wy_Tr_hasNumber rfl wl_660 rfl ⟨(Nat.le_of_ble_eq_true rfl), (Nat.le_of_ble_eq_true rfl)⟩ rfl (Nat.le_of_ble_eq_true rfl) dX10_see_5 ?_
  refine gm_if_ne C 14 dX10_see_8 (by decide) (fun c2 => ?_) (fun c2 => ?_)
  · have hf := gm_if _ c2 hf
    refine gm_aload_n C dX10_see_14 rfl 0 rfl ?_
    refine gm_getr (j := 88) (u := 88) C (Nat.le_of_ble_eq_true rfl) rfl kc_10 (k := 4) rfl (by decide) rfl rfl wl_332 dX10_see_15 ?_
    refine gm_geti C (Nat.le_of_ble_eq_true rfl) rfl kc_1 (k := 3) rfl (by decide) rfl wl_269 dX10_see_18 ?_
    refine gm_bipush (v := 8) C dX10_see_21 (by decide) ?_
    refine gm_icmp_lt C 29 dX10_see_23 (by decide) (fun c3 => ?_) (fun c3 => ?_)
    · have hf := gm_it _ c3 hf
      refine gm_aload_n C dX10_see_29 rfl 0 rfl ?_
      refine gm_getr (j := 88) (u := 88) C (Nat.le_of_ble_eq_true rfl) rfl kc_10 (k := 4) rfl (by decide) rfl rfl wl_332 dX10_see_30 ?_
      refine gm_iload_n C dX10_see_33 rfl 1 rfl ?_
      refine gm_iload_n C dX10_see_34 rfl 2 rfl ?_
      obtain ⟨S4, eS4, hf⟩ := gm_bp1_s hf
      refine gm_callVv (As := [.int a0, .int a1]) C (Gs_takeIn_c l cf ad eS4) (Nat.le_of_ble_eq_true rfl) rfl kc_1 wy_Gs_takeIn rfl wl_798 rfl ⟨(Nat.le_of_ble_eq_true rfl), (Nat.le_of_ble_eq_true rfl)⟩ rfl (Nat.le_of_ble_eq_true rfl) dX10_see_35 ?_
      refine gm_aload_n C dX10_see_38 rfl 0 rfl ?_
      refine gm_getr (j := 88) (u := 88) C (Nat.le_of_ble_eq_true rfl) rfl kc_10 (k := 4) rfl (by decide) rfl rfl wl_332 dX10_see_39 ?_
      refine gm_geti C (Nat.le_of_ble_eq_true rfl) rfl kc_1 (k := 3) rfl (by decide) rfl wl_269 dX10_see_42 ?_
      exact gm_iret C hr rfl dX10_see_45 hf
    · have hf := gm_if _ c3 hf
      refine gm_ldc (v := (-1000000004)) C wl_365 dX10_see_26 ?_
      exact gm_iret C hr rfl dX10_see_28 hf
  · have hf := gm_it _ c2 hf
    refine gm_ldc (v := (-1000000002)) C wl_360 dX10_see_11 ?_
    exact gm_iret C hr rfl dX10_see_13 hf
theorem dX10_could_0 : decode cX10_could 0 = .ok (.iload_n 2, 1) := by decide +kernel
theorem dX10_could_1 : decode cX10_could 1 = .ok (.ifCond .lt 8, 3) := by decide +kernel
theorem dX10_could_4 : decode cX10_could 4 = .ok (.iload_n 2, 1) := by decide +kernel
theorem dX10_could_5 : decode cX10_could 5 = .ok (.iconst 2, 1) := by decide +kernel
theorem dX10_could_6 : decode cX10_could 6 = .ok (.if_icmp .le 6, 3) := by decide +kernel
theorem dX10_could_9 : decode cX10_could 9 = .ok (.ldc 62, 2) := by decide +kernel
theorem dX10_could_11 : decode cX10_could 11 = .ok (.ireturn, 1) := by decide +kernel
theorem dX10_could_12 : decode cX10_could 12 = .ok (.iload_n 1, 1) := by decide +kernel
theorem dX10_could_13 : decode cX10_could 13 = .ok (.ifCond .lt 14, 3) := by decide +kernel
theorem dX10_could_16 : decode cX10_could 16 = .ok (.iload_n 1, 1) := by decide +kernel
theorem dX10_could_17 : decode cX10_could 17 = .ok (.aload_n 0, 1) := by decide +kernel
theorem dX10_could_18 : decode cX10_could 18 = .ok (.getfield 40, 3) := by decide +kernel
theorem dX10_could_21 : decode cX10_could 21 = .ok (.getfield 135, 3) := by decide +kernel
theorem dX10_could_24 : decode cX10_could 24 = .ok (.if_icmp .lt 5, 3) := by decide +kernel
theorem dX10_could_27 : decode cX10_could 27 = .ok (.iconst (-1), 1) := by decide +kernel
theorem dX10_could_28 : decode cX10_could 28 = .ok (.ireturn, 1) := by decide +kernel
theorem dX10_could_29 : decode cX10_could 29 = .ok (.aload_n 0, 1) := by decide +kernel
theorem dX10_could_30 : decode cX10_could 30 = .ok (.getfield 40, 3) := by decide +kernel
theorem dX10_could_33 : decode cX10_could 33 = .ok (.getfield 251, 3) := by decide +kernel
theorem dX10_could_36 : decode cX10_could 36 = .ok (.iload_n 1, 1) := by decide +kernel
theorem dX10_could_37 : decode cX10_could 37 = .ok (.iaload, 1) := by decide +kernel
theorem dX10_could_38 : decode cX10_could 38 = .ok (.istore_n 3, 1) := by decide +kernel
theorem dX10_could_39 : decode cX10_could 39 = .ok (.iload_n 2, 1) := by decide +kernel
theorem dX10_could_40 : decode cX10_could 40 = .ok (.ifCond .ne 8, 3) := by decide +kernel
theorem dX10_could_43 : decode cX10_could 43 = .ok (.iload_n 3, 1) := by decide +kernel
theorem dX10_could_44 : decode cX10_could 44 = .ok (.invokestatic 148, 3) := by decide +kernel
theorem dX10_could_47 : decode cX10_could 47 = .ok (.ireturn, 1) := by decide +kernel
theorem dX10_could_48 : decode cX10_could 48 = .ok (.iload_n 2, 1) := by decide +kernel
theorem dX10_could_49 : decode cX10_could 49 = .ok (.iconst 1, 1) := by decide +kernel
theorem dX10_could_50 : decode cX10_could 50 = .ok (.if_icmp .ne 10, 3) := by decide +kernel
theorem dX10_could_53 : decode cX10_could 53 = .ok (.iload_n 3, 1) := by decide +kernel
theorem dX10_could_54 : decode cX10_could 54 = .ok (.invokestatic 154, 3) := by decide +kernel
theorem dX10_could_57 : decode cX10_could 57 = .ok (.goto 7, 3) := by decide +kernel
theorem dX10_could_60 : decode cX10_could 60 = .ok (.iload_n 3, 1) := by decide +kernel
theorem dX10_could_61 : decode cX10_could 61 = .ok (.invokestatic 157, 3) := by decide +kernel
theorem dX10_could_64 : decode cX10_could 64 = .ok (.ireturn, 1) := by decide +kernel
def Lt_could (a0 : Int32) (a1 : Int32) (S : gm_M) : Option Int32 :=
  if a1 < 0 then (
    some ((-1000000002))
  ) else (
    if a1 ≤ 2 then (
      if a0 < 0 then (
        some ((-1))
      ) else (
        if a0 < S.1 88 2 then (
          gm_ck (a0) 171 <|
          gm_lt (α := Int32) (S.1 89 a0.toNatClampNeg) fun x6 =>
          if a1 = 0 then (
            gm_bp1 (Ru_kindOf x6) fun v11 =>
            some (v11)
          ) else (
            if a1 = 1 then (
              gm_bp1 (Ru_aOf x6) fun v10 =>
              some (v10)
            ) else (
              gm_bp1 (Ru_bOf x6) fun v9 =>
              some (v9)
            )
          )
        ) else (
          some ((-1))
        )
      )
    ) else (
      some ((-1000000002))
    )
  )
set_option maxHeartbeats 4000000 in
set_option maxRecDepth 100000 in
theorem Lt_could_c (l : Launch) (cf : gm_C) (ad : Nat → Nat)    {a0 : Int32} {a1 : Int32} {S : gm_M} {r : Int32}  (hf : Lt_could a0 a1 S = some r) : gm_Met l yX10_could cX10_could 4 (some .int) 1 20 cf ad gm_sC 106 [.ref (ad 0), .int a0, .int a1] S (some (.int r)) S := by
  refine gm_met (by decide +kernel) (Nat.le_of_ble_eq_true rfl) ?_
  intro p e s m args below meth c C hr
  have C : gm_F p s m args meth c cf ad 106 cX10_could 4 RX10 := C
  refine gm_lve (lv' := [(0, .ref (ad 0)), (1, .int a0), (2, .int a1)]) rfl ?_
  unfold Lt_could at hf
  refine gm_iload_n C dX10_could_0 rfl 2 rfl ?_
  refine gm_if_lt C 9 dX10_could_1 (by decide) (fun c1 => ?_) (fun c1 => ?_)
  · have hf := gm_it _ c1 hf
    refine gm_ldc (v := (-1000000002)) C wl_360 dX10_could_9 ?_
    exact gm_iretK C hr rfl dX10_could_11 hf
  · have hf := gm_if _ c1 hf
    refine gm_iload_n C dX10_could_4 rfl 2 rfl ?_
    refine gm_iconst (v := 2) C dX10_could_5 (by decide) ?_
    refine gm_icmp_le C 12 dX10_could_6 (by decide) (fun c2 => ?_) (fun c2 => ?_)
    · have hf := gm_it _ c2 hf
      refine gm_iload_n C dX10_could_12 rfl 1 rfl ?_
      refine gm_if_lt C 27 dX10_could_13 (by decide) (fun c3 => ?_) (fun c3 => ?_)
      · have hf := gm_it _ c3 hf
        refine gm_iconst (v := (-1)) C dX10_could_27 (by decide) ?_
        exact gm_iretK C hr rfl dX10_could_28 hf
      · have hf := gm_if _ c3 hf
        refine gm_iload_n C dX10_could_16 rfl 1 rfl ?_
        refine gm_aload_n C dX10_could_17 rfl 0 rfl ?_
        refine gm_getr (j := 88) (u := 88) C (Nat.le_of_ble_eq_true rfl) rfl kc_10 (k := 4) rfl (by decide) rfl rfl wl_332 dX10_could_18 ?_
        refine gm_geti C (Nat.le_of_ble_eq_true rfl) rfl kc_1 (k := 2) rfl (by decide) rfl wl_267 dX10_could_21 ?_
        refine gm_icmp_lt C 29 dX10_could_24 (by decide) (fun c4 => ?_) (fun c4 => ?_)
        · have hf := gm_it _ c4 hf
          refine gm_aload_n C dX10_could_29 rfl 0 rfl ?_
          refine gm_getr (j := 88) (u := 88) C (Nat.le_of_ble_eq_true rfl) rfl kc_10 (k := 4) rfl (by decide) rfl rfl wl_332 dX10_could_30 ?_
          refine gm_getr (j := 1) (u := 89) C (Nat.le_of_ble_eq_true rfl) rfl kc_1 (k := 0) rfl (by decide) rfl rfl wl_264 dX10_could_33 ?_
          refine gm_iload_n C dX10_could_36 rfl 1 rfl ?_
          obtain ⟨h5, hf⟩ := gm_ck_s hf
          refine gm_iald C (Nat.le_of_ble_eq_true rfl) rfl rfl h5 dX10_could_37 ?_
          obtain ⟨x6, ex6, hf⟩ := gm_lt_s hf
          refine gm_topi ex6 ?_
          refine gm_istore_n (lv' := [(3, .int x6), (0, .ref (ad 0)), (1, .int a0), (2, .int a1)]) C dX10_could_38 rfl (by decide) rfl ?_
          refine gm_iload_n C dX10_could_39 rfl 3 rfl ?_
          refine gm_if_ne C 48 dX10_could_40 (by decide) (fun c7 => ?_) (fun c7 => ?_)
          · have hf := gm_if _ c7 hf
            refine gm_iload_n C dX10_could_48 rfl 3 rfl ?_
            refine gm_iconst (v := 1) C dX10_could_49 (by decide) ?_
            refine gm_icmp_ne C 60 dX10_could_50 (by decide) (fun c8 => ?_) (fun c8 => ?_)
            · have hf := gm_if _ c8 hf
              refine gm_iload_n C dX10_could_60 rfl 0 rfl ?_
              obtain ⟨v9, ev9, hf⟩ := gm_bp1_s hf
              refine gm_callSi (As := [.int x6]) C (Ru_bOf_c l cf ad ev9 (S := S)) wy_Ru_bOf wl_620 rfl ⟨(Nat.le_of_ble_eq_true rfl), (Nat.le_of_ble_eq_true rfl)⟩ rfl (Nat.le_of_ble_eq_true rfl) dX10_could_61 ?_
              exact gm_iretK C hr rfl dX10_could_64 hf
            · have hf := gm_it _ c8 hf
              refine gm_iload_n C dX10_could_53 rfl 0 rfl ?_
              obtain ⟨v10, ev10, hf⟩ := gm_bp1_s hf
              refine gm_callSi (As := [.int x6]) C (Ru_aOf_c l cf ad ev10 (S := S)) wy_Ru_aOf wl_619 rfl ⟨(Nat.le_of_ble_eq_true rfl), (Nat.le_of_ble_eq_true rfl)⟩ rfl (Nat.le_of_ble_eq_true rfl) dX10_could_54 ?_
              refine gm_goto C 64 dX10_could_57 (by decide) ?_
              exact gm_iretK C hr rfl dX10_could_64 hf
          · have hf := gm_it _ c7 hf
            refine gm_iload_n C dX10_could_43 rfl 0 rfl ?_
            obtain ⟨v11, ev11, hf⟩ := gm_bp1_s hf
            refine gm_callSi (As := [.int x6]) C (Ru_kindOf_c l cf ad ev11 (S := S)) wy_Ru_kindOf wl_618 rfl ⟨(Nat.le_of_ble_eq_true rfl), (Nat.le_of_ble_eq_true rfl)⟩ rfl (Nat.le_of_ble_eq_true rfl) dX10_could_44 ?_
            exact gm_iretK C hr rfl dX10_could_47 hf
        · have hf := gm_if _ c4 hf
          refine gm_iconst (v := (-1)) C dX10_could_27 (by decide) ?_
          exact gm_iretK C hr rfl dX10_could_28 hf
    · have hf := gm_if _ c2 hf
      refine gm_ldc (v := (-1000000002)) C wl_360 dX10_could_9 ?_
      exact gm_iretK C hr rfl dX10_could_11 hf
theorem dX0_add_0 : decode cX0_add 0 = .ok (.aload_n 0, 1) := by decide +kernel
theorem dX0_add_1 : decode cX0_add 1 = .ok (.getfield 19, 3) := by decide +kernel
theorem dX0_add_4 : decode cX0_add 4 = .ok (.bipush 15, 2) := by decide +kernel
theorem dX0_add_6 : decode cX0_add 6 = .ok (.if_icmp .lt 5, 3) := by decide +kernel
theorem dX0_add_9 : decode cX0_add 9 = .ok (.iconst 0, 1) := by decide +kernel
theorem dX0_add_10 : decode cX0_add 10 = .ok (.ireturn, 1) := by decide +kernel
theorem dX0_add_11 : decode cX0_add 11 = .ok (.aload_n 0, 1) := by decide +kernel
theorem dX0_add_12 : decode cX0_add 12 = .ok (.getfield 9, 3) := by decide +kernel
theorem dX0_add_15 : decode cX0_add 15 = .ok (.aload_n 0, 1) := by decide +kernel
theorem dX0_add_16 : decode cX0_add 16 = .ok (.getfield 19, 3) := by decide +kernel
theorem dX0_add_19 : decode cX0_add 19 = .ok (.iload_n 1, 1) := by decide +kernel
theorem dX0_add_20 : decode cX0_add 20 = .ok (.iastore, 1) := by decide +kernel
theorem dX0_add_21 : decode cX0_add 21 = .ok (.aload_n 0, 1) := by decide +kernel
theorem dX0_add_22 : decode cX0_add 22 = .ok (.getfield 15, 3) := by decide +kernel
theorem dX0_add_25 : decode cX0_add 25 = .ok (.aload_n 0, 1) := by decide +kernel
theorem dX0_add_26 : decode cX0_add 26 = .ok (.getfield 19, 3) := by decide +kernel
theorem dX0_add_29 : decode cX0_add 29 = .ok (.iload_n 2, 1) := by decide +kernel
theorem dX0_add_30 : decode cX0_add 30 = .ok (.bastore, 1) := by decide +kernel
theorem dX0_add_31 : decode cX0_add 31 = .ok (.aload_n 0, 1) := by decide +kernel
theorem dX0_add_32 : decode cX0_add 32 = .ok (.dup, 1) := by decide +kernel
theorem dX0_add_33 : decode cX0_add 33 = .ok (.getfield 19, 3) := by decide +kernel
theorem dX0_add_36 : decode cX0_add 36 = .ok (.iconst 1, 1) := by decide +kernel
theorem dX0_add_37 : decode cX0_add 37 = .ok (.iadd, 1) := by decide +kernel
theorem dX0_add_38 : decode cX0_add 38 = .ok (.putfield 19, 3) := by decide +kernel
theorem dX0_add_41 : decode cX0_add 41 = .ok (.iconst 1, 1) := by decide +kernel
theorem dX0_add_42 : decode cX0_add 42 = .ok (.ireturn, 1) := by decide +kernel
def Bk_add (a0 : Int32) (a1 : Int32) (S : gm_M) : Option (Int32 × gm_M) :=
  if S.1 92 2 < 15 then (
    gm_ck (S.1 92 2) 15 <|
    gm_lt (α := gm_M) (gm_ui S 93 ((S.1 92 2).toNatClampNeg) a0) fun S3 =>
    gm_ck (S3.1 92 2) 15 <|
    gm_lt (α := gm_M) (gm_ui S3 94 ((S3.1 92 2).toNatClampNeg) (vp_nar .boolean a1)) fun S5 =>
    gm_lt (α := gm_M) (gm_ui S5 92 2 ((S5.1 92 2) + 1)) fun S6 =>
    some (1, S6)
  ) else (
    some (0, S)
  )
set_option maxHeartbeats 4000000 in
set_option maxRecDepth 100000 in
theorem Bk_add_c (l : Launch) (cf : gm_C) (ad : Nat → Nat)    {a0 : Int32} {a1 : Int32} {S : gm_M} {r : Int32} {S'  : gm_M} (hf : Bk_add a0 a1 S = some (r, S')) : gm_Met l yX0_add cX0_add 3 (some .boolean) 0 0 cf ad gm_sC 106 [.ref (ad 92), .int a0, .int a1] S (some (.int r)) S' := by
  refine gm_met (by decide +kernel) (Nat.le_of_ble_eq_true rfl) ?_
  intro p e s m args below meth c C hr
  have C : gm_F p s m args meth c cf ad 106 cX0_add 3 RX0 := C
  refine gm_lve (lv' := [(0, .ref (ad 92)), (1, .int a0), (2, .int a1)]) rfl ?_
  unfold Bk_add at hf
  refine gm_aload_n C dX0_add_0 rfl 0 rfl ?_
  refine gm_geti C (Nat.le_of_ble_eq_true rfl) rfl kc_0 (k := 2) rfl (by decide) rfl wl_298 dX0_add_1 ?_
  refine gm_bipush (v := 15) C dX0_add_4 (by decide) ?_
  refine gm_icmp_lt C 11 dX0_add_6 (by decide) (fun c1 => ?_) (fun c1 => ?_)
  · have hf := gm_it _ c1 hf
    refine gm_aload_n C dX0_add_11 rfl 0 rfl ?_
    refine gm_getr (j := 1) (u := 93) C (Nat.le_of_ble_eq_true rfl) rfl kc_0 (k := 0) rfl (by decide) rfl rfl wl_294 dX0_add_12 ?_
    refine gm_aload_n C dX0_add_15 rfl 0 rfl ?_
    refine gm_geti C (Nat.le_of_ble_eq_true rfl) rfl kc_0 (k := 2) rfl (by decide) rfl wl_298 dX0_add_16 ?_
    refine gm_iload_n C dX0_add_19 rfl 1 rfl ?_
    obtain ⟨h2, hf⟩ := gm_ck_s hf
    refine gm_iast C (Nat.le_of_ble_eq_true rfl) rfl rfl h2 dX0_add_20 ?_
    obtain ⟨S3, eS3, hf⟩ := gm_lt_s hf
    refine gm_topm eS3 ?_
    refine gm_aload_n C dX0_add_21 rfl 0 rfl ?_
    refine gm_getr (j := 2) (u := 94) C (Nat.le_of_ble_eq_true rfl) rfl kc_0 (k := 1) rfl (by decide) rfl rfl wl_296 dX0_add_22 ?_
    refine gm_aload_n C dX0_add_25 rfl 0 rfl ?_
    refine gm_geti C (Nat.le_of_ble_eq_true rfl) rfl kc_0 (k := 2) rfl (by decide) rfl wl_298 dX0_add_26 ?_
    refine gm_iload_n C dX0_add_29 rfl 2 rfl ?_
    obtain ⟨h4, hf⟩ := gm_ck_s hf
    refine gm_zast C (Nat.le_of_ble_eq_true rfl) rfl rfl h4 dX0_add_30 ?_
    obtain ⟨S5, eS5, hf⟩ := gm_lt_s hf
    refine gm_topm eS5 ?_
    refine gm_aload_n C dX0_add_31 rfl 0 rfl ?_
    refine gm_dup C dX0_add_32 rfl ?_
    refine gm_geti C (Nat.le_of_ble_eq_true rfl) rfl kc_0 (k := 2) rfl (by decide) rfl wl_298 dX0_add_33 ?_
    refine gm_iconst (v := 1) C dX0_add_36 (by decide) ?_
    refine gm_iadd C dX0_add_37 ?_
    refine gm_puti C (Nat.le_of_ble_eq_true rfl) rfl kc_0 (k := 2) rfl (by decide) rfl rfl (kc_0.2.2.2.1 2 (by decide)) rfl rfl wl_298 dX0_add_38 ?_
    obtain ⟨S6, eS6, hf⟩ := gm_lt_s hf
    refine gm_topm eS6 ?_
    refine gm_iconst (v := 1) C dX0_add_41 (by decide) ?_
    exact gm_iret C hr rfl dX0_add_42 hf
  · have hf := gm_if _ c1 hf
    refine gm_iconst (v := 0) C dX0_add_9 (by decide) ?_
    exact gm_iret C hr rfl dX0_add_10 hf
theorem dX10_write_0 : decode cX10_write 0 = .ok (.aload_n 0, 1) := by decide +kernel
theorem dX10_write_1 : decode cX10_write 1 = .ok (.getfield 19, 3) := by decide +kernel
theorem dX10_write_4 : decode cX10_write 4 = .ok (.iload_n 1, 1) := by decide +kernel
theorem dX10_write_5 : decode cX10_write 5 = .ok (.invokevirtual 192, 3) := by decide +kernel
theorem dX10_write_8 : decode cX10_write 8 = .ok (.ifCond .ne 6, 3) := by decide +kernel
theorem dX10_write_11 : decode cX10_write 11 = .ok (.ldc 62, 2) := by decide +kernel
theorem dX10_write_13 : decode cX10_write 13 = .ok (.ireturn, 1) := by decide +kernel
theorem dX10_write_14 : decode cX10_write 14 = .ok (.aload_n 0, 1) := by decide +kernel
theorem dX10_write_15 : decode cX10_write 15 = .ok (.getfield 47, 3) := by decide +kernel
theorem dX10_write_18 : decode cX10_write 18 = .ok (.iload_n 1, 1) := by decide +kernel
theorem dX10_write_19 : decode cX10_write 19 = .ok (.iload_n 2, 1) := by decide +kernel
theorem dX10_write_20 : decode cX10_write 20 = .ok (.invokevirtual 254, 3) := by decide +kernel
theorem dX10_write_23 : decode cX10_write 23 = .ok (.ifCond .eq 13, 3) := by decide +kernel
theorem dX10_write_26 : decode cX10_write 26 = .ok (.aload_n 0, 1) := by decide +kernel
theorem dX10_write_27 : decode cX10_write 27 = .ok (.getfield 47, 3) := by decide +kernel
theorem dX10_write_30 : decode cX10_write 30 = .ok (.getfield 104, 3) := by decide +kernel
theorem dX10_write_33 : decode cX10_write 33 = .ok (.goto 5, 3) := by decide +kernel
theorem dX10_write_36 : decode cX10_write 36 = .ok (.ldc 76, 2) := by decide +kernel
theorem dX10_write_38 : decode cX10_write 38 = .ok (.ireturn, 1) := by decide +kernel
def Lt_write (fl : Nat) (a0 : Int32) (a1 : Int32) (S : gm_M) : Option (Int32 × gm_M) :=
  gm_bp1 (Tr_hasNumber fl 8 a0 S) fun v1 =>
  if v1 = 0 then (
    some ((-1000000002), S)
  ) else (
    gm_bp2 (Bk_add a0 a1 S) fun v3 S4 =>
    if v3 = 0 then (
      some ((-1000000004), S4)
    ) else (
      some (S4.1 92 2, S4)
    )
  )
set_option maxHeartbeats 4000000 in
set_option maxRecDepth 100000 in
theorem Lt_write_c (l : Launch) (cf : gm_C) (ad : Nat → Nat) {fl : Nat}   {a0 : Int32} {a1 : Int32} {S : gm_M} {r : Int32} {S'  : gm_M} (hf : Lt_write fl a0 a1 S = some (r, S')) : gm_Met l yX10_write cX10_write 3 (some .int) 2 43 cf ad gm_sC 106 [.ref (ad 0), .int a0, .int a1] S (some (.int r)) S' := by
  refine gm_met (by decide +kernel) (Nat.le_of_ble_eq_true rfl) ?_
  intro p e s m args below meth c C hr
  have C : gm_F p s m args meth c cf ad 106 cX10_write 3 RX10 := C
  refine gm_lve (lv' := [(0, .ref (ad 0)), (1, .int a0), (2, .int a1)]) rfl ?_
  unfold Lt_write at hf
  refine gm_aload_n C dX10_write_0 rfl 0 rfl ?_
  refine gm_getr (j := 8) (u := 8) C (Nat.le_of_ble_eq_true rfl) rfl kc_10 (k := 1) rfl (by decide) rfl rfl wl_329 dX10_write_1 ?_
  refine gm_iload_n C dX10_write_4 rfl 1 rfl ?_
  obtain ⟨v1, ev1, hf⟩ := gm_bp1_s hf
  refine gm_callVi (As := [.int a0]) C (Tr_hasNumber_c l cf ad gm_tr_8 ev1) (Nat.le_of_ble_eq_true rfl) rfl kc_9 wy_Tr_hasNumber rfl wl_660 rfl ⟨(Nat.le_of_ble_eq_true rfl), (Nat.le_of_ble_eq_true rfl)⟩ rfl (Nat.le_of_ble_eq_true rfl) dX10_write_5 ?_
  refine gm_if_ne C 14 dX10_write_8 (by decide) (fun c2 => ?_) (fun c2 => ?_)
  · have hf := gm_if _ c2 hf
    refine gm_aload_n C dX10_write_14 rfl 0 rfl ?_
    refine gm_getr (j := 92) (u := 92) C (Nat.le_of_ble_eq_true rfl) rfl kc_10 (k := 5) rfl (by decide) rfl rfl wl_333 dX10_write_15 ?_
    refine gm_iload_n C dX10_write_18 rfl 1 rfl ?_
    refine gm_iload_n C dX10_write_19 rfl 2 rfl ?_
    obtain ⟨v3, S4, eS4, hf⟩ := gm_bp2_s hf
    refine gm_callVi (As := [.int a0, .int a1]) C (Bk_add_c l cf ad eS4) (Nat.le_of_ble_eq_true rfl) rfl kc_0 wy_Bk_add rfl wl_810 rfl ⟨(Nat.le_of_ble_eq_true rfl), (Nat.le_of_ble_eq_true rfl)⟩ rfl (Nat.le_of_ble_eq_true rfl) dX10_write_20 ?_
    refine gm_if_eq C 36 dX10_write_23 (by decide) (fun c5 => ?_) (fun c5 => ?_)
    · have hf := gm_it _ c5 hf
      refine gm_ldc (v := (-1000000004)) C wl_365 dX10_write_36 ?_
      exact gm_iret C hr rfl dX10_write_38 hf
    · have hf := gm_if _ c5 hf
      refine gm_aload_n C dX10_write_26 rfl 0 rfl ?_
      refine gm_getr (j := 92) (u := 92) C (Nat.le_of_ble_eq_true rfl) rfl kc_10 (k := 5) rfl (by decide) rfl rfl wl_333 dX10_write_27 ?_
      refine gm_geti C (Nat.le_of_ble_eq_true rfl) rfl kc_0 (k := 2) rfl (by decide) rfl wl_299 dX10_write_30 ?_
      refine gm_goto C 38 dX10_write_33 (by decide) ?_
      exact gm_iret C hr rfl dX10_write_38 hf
  · have hf := gm_it _ c2 hf
    refine gm_ldc (v := (-1000000002)) C wl_360 dX10_write_11 ?_
    exact gm_iret C hr rfl dX10_write_13 hf
theorem dX10_tear_0 : decode cX10_tear 0 = .ok (.aload_n 0, 1) := by decide +kernel
theorem dX10_tear_1 : decode cX10_tear 1 = .ok (.getfield 40, 3) := by decide +kernel
theorem dX10_tear_4 : decode cX10_tear 4 = .ok (.getfield 132, 3) := by decide +kernel
theorem dX10_tear_7 : decode cX10_tear 7 = .ok (.aload_n 0, 1) := by decide +kernel
theorem dX10_tear_8 : decode cX10_tear 8 = .ok (.getfield 47, 3) := by decide +kernel
theorem dX10_tear_11 : decode cX10_tear 11 = .ok (.getfield 104, 3) := by decide +kernel
theorem dX10_tear_14 : decode cX10_tear 14 = .ok (.iadd, 1) := by decide +kernel
theorem dX10_tear_15 : decode cX10_tear 15 = .ok (.istore_n 1, 1) := by decide +kernel
theorem dX10_tear_16 : decode cX10_tear 16 = .ok (.aload_n 0, 1) := by decide +kernel
theorem dX10_tear_17 : decode cX10_tear 17 = .ok (.getfield 40, 3) := by decide +kernel
theorem dX10_tear_20 : decode cX10_tear 20 = .ok (.aload_n 0, 1) := by decide +kernel
theorem dX10_tear_21 : decode cX10_tear 21 = .ok (.getfield 19, 3) := by decide +kernel
theorem dX10_tear_24 : decode cX10_tear 24 = .ok (.getfield 97, 3) := by decide +kernel
theorem dX10_tear_27 : decode cX10_tear 27 = .ok (.invokevirtual 100, 3) := by decide +kernel
theorem dX10_tear_30 : decode cX10_tear 30 = .ok (.aload_n 0, 1) := by decide +kernel
theorem dX10_tear_31 : decode cX10_tear 31 = .ok (.getfield 47, 3) := by decide +kernel
theorem dX10_tear_34 : decode cX10_tear 34 = .ok (.iconst 0, 1) := by decide +kernel
theorem dX10_tear_35 : decode cX10_tear 35 = .ok (.putfield 104, 3) := by decide +kernel
theorem dX10_tear_38 : decode cX10_tear 38 = .ok (.iload_n 1, 1) := by decide +kernel
theorem dX10_tear_39 : decode cX10_tear 39 = .ok (.ireturn, 1) := by decide +kernel
def Lt_tear (fl : Nat) (S : gm_M) : Option (Int32 × gm_M) :=
  gm_lt (α := Int32) ((S.1 88 3) + (S.1 92 2)) fun x1 =>
  gm_bp1 (Gs_forget fl (S.1 8 3) S) fun S2 =>
  gm_lt (α := gm_M) (gm_ui S2 92 2 0) fun S3 =>
  some (x1, S3)
set_option maxHeartbeats 4000000 in
set_option maxRecDepth 100000 in
theorem Lt_tear_c (l : Launch) (cf : gm_C) (ad : Nat → Nat) {fl : Nat}    {S : gm_M} {r : Int32} {S'  : gm_M} (hf : Lt_tear fl S = some (r, S')) : gm_Met l yX10_tear cX10_tear 2 (some .int) 3 68 cf ad gm_sC 106 [.ref (ad 0)] S (some (.int r)) S' := by
  refine gm_met (by decide +kernel) (Nat.le_of_ble_eq_true rfl) ?_
  intro p e s m args below meth c C hr
  have C : gm_F p s m args meth c cf ad 106 cX10_tear 2 RX10 := C
  refine gm_lve (lv' := [(0, .ref (ad 0))]) rfl ?_
  unfold Lt_tear at hf
  refine gm_aload_n C dX10_tear_0 rfl 0 rfl ?_
  refine gm_getr (j := 88) (u := 88) C (Nat.le_of_ble_eq_true rfl) rfl kc_10 (k := 4) rfl (by decide) rfl rfl wl_332 dX10_tear_1 ?_
  refine gm_geti C (Nat.le_of_ble_eq_true rfl) rfl kc_1 (k := 3) rfl (by decide) rfl wl_269 dX10_tear_4 ?_
  refine gm_aload_n C dX10_tear_7 rfl 0 rfl ?_
  refine gm_getr (j := 92) (u := 92) C (Nat.le_of_ble_eq_true rfl) rfl kc_10 (k := 5) rfl (by decide) rfl rfl wl_333 dX10_tear_8 ?_
  refine gm_geti C (Nat.le_of_ble_eq_true rfl) rfl kc_0 (k := 2) rfl (by decide) rfl wl_299 dX10_tear_11 ?_
  refine gm_iadd C dX10_tear_14 ?_
  obtain ⟨x1, ex1, hf⟩ := gm_lt_s hf
  refine gm_topi ex1 ?_
  refine gm_istore_n (lv' := [(1, .int x1), (0, .ref (ad 0))]) C dX10_tear_15 rfl (by decide) rfl ?_
  refine gm_aload_n C dX10_tear_16 rfl 1 rfl ?_
  refine gm_getr (j := 88) (u := 88) C (Nat.le_of_ble_eq_true rfl) rfl kc_10 (k := 4) rfl (by decide) rfl rfl wl_332 dX10_tear_17 ?_
  refine gm_aload_n C dX10_tear_20 rfl 1 rfl ?_
  refine gm_getr (j := 8) (u := 8) C (Nat.le_of_ble_eq_true rfl) rfl kc_10 (k := 1) rfl (by decide) rfl rfl wl_329 dX10_tear_21 ?_
  refine gm_geti C (Nat.le_of_ble_eq_true rfl) rfl kc_9 (k := 3) rfl (by decide) rfl wl_111 dX10_tear_24 ?_
  obtain ⟨S2, eS2, hf⟩ := gm_bp1_s hf
  refine gm_callVv (As := [.int (S.1 8 3)]) C (Gs_forget_c l cf ad eS2) (Nat.le_of_ble_eq_true rfl) rfl kc_1 wy_Gs_forget rfl wl_539 rfl ⟨(Nat.le_of_ble_eq_true rfl), (Nat.le_of_ble_eq_true rfl)⟩ rfl (Nat.le_of_ble_eq_true rfl) dX10_tear_27 ?_
  refine gm_aload_n C dX10_tear_30 rfl 1 rfl ?_
  refine gm_getr (j := 92) (u := 92) C (Nat.le_of_ble_eq_true rfl) rfl kc_10 (k := 5) rfl (by decide) rfl rfl wl_333 dX10_tear_31 ?_
  refine gm_iconst (v := 0) C dX10_tear_34 (by decide) ?_
  refine gm_puti C (Nat.le_of_ble_eq_true rfl) rfl kc_0 (k := 2) rfl (by decide) rfl rfl (kc_0.2.2.2.1 2 (by decide)) rfl rfl wl_299 dX10_tear_35 ?_
  obtain ⟨S3, eS3, hf⟩ := gm_lt_s hf
  refine gm_topm eS3 ?_
  refine gm_iload_n C dX10_tear_38 rfl 0 rfl ?_
  exact gm_iret C hr rfl dX10_tear_39 hf
theorem dX10_judge_0 : decode cX10_judge 0 = .ok (.iconst 0, 1) := by decide +kernel
theorem dX10_judge_1 : decode cX10_judge 1 = .ok (.istore_n 1, 1) := by decide +kernel
theorem dX10_judge_2 : decode cX10_judge 2 = .ok (.iload_n 1, 1) := by decide +kernel
theorem dX10_judge_3 : decode cX10_judge 3 = .ok (.aload_n 0, 1) := by decide +kernel
theorem dX10_judge_4 : decode cX10_judge 4 = .ok (.getfield 47, 3) := by decide +kernel
theorem dX10_judge_7 : decode cX10_judge 7 = .ok (.getfield 104, 3) := by decide +kernel
theorem dX10_judge_10 : decode cX10_judge 10 = .ok (.if_icmp .ge 39, 3) := by decide +kernel
theorem dX10_judge_13 : decode cX10_judge 13 = .ok (.aload_n 0, 1) := by decide +kernel
theorem dX10_judge_14 : decode cX10_judge 14 = .ok (.getfield 26, 3) := by decide +kernel
theorem dX10_judge_17 : decode cX10_judge 17 = .ok (.aload_n 0, 1) := by decide +kernel
theorem dX10_judge_18 : decode cX10_judge 18 = .ok (.getfield 47, 3) := by decide +kernel
theorem dX10_judge_21 : decode cX10_judge 21 = .ok (.getfield 257, 3) := by decide +kernel
theorem dX10_judge_24 : decode cX10_judge 24 = .ok (.iload_n 1, 1) := by decide +kernel
theorem dX10_judge_25 : decode cX10_judge 25 = .ok (.iaload, 1) := by decide +kernel
theorem dX10_judge_26 : decode cX10_judge 26 = .ok (.invokevirtual 198, 3) := by decide +kernel
theorem dX10_judge_29 : decode cX10_judge 29 = .ok (.aload_n 0, 1) := by decide +kernel
theorem dX10_judge_30 : decode cX10_judge 30 = .ok (.getfield 47, 3) := by decide +kernel
theorem dX10_judge_33 : decode cX10_judge 33 = .ok (.getfield 260, 3) := by decide +kernel
theorem dX10_judge_36 : decode cX10_judge 36 = .ok (.iload_n 1, 1) := by decide +kernel
theorem dX10_judge_37 : decode cX10_judge 37 = .ok (.baload, 1) := by decide +kernel
theorem dX10_judge_38 : decode cX10_judge 38 = .ok (.if_icmp .eq 5, 3) := by decide +kernel
theorem dX10_judge_41 : decode cX10_judge 41 = .ok (.iload_n 1, 1) := by decide +kernel
theorem dX10_judge_42 : decode cX10_judge 42 = .ok (.ireturn, 1) := by decide +kernel
theorem dX10_judge_43 : decode cX10_judge 43 = .ok (.iinc 1 1, 3) := by decide +kernel
theorem dX10_judge_46 : decode cX10_judge 46 = .ok (.goto (-44), 3) := by decide +kernel
theorem dX10_judge_49 : decode cX10_judge 49 = .ok (.iconst (-1), 1) := by decide +kernel
theorem dX10_judge_50 : decode cX10_judge 50 = .ok (.ireturn, 1) := by decide +kernel
def Lt_judge_L2_b (S : gm_M) (rec : Int32 → Option Int32) (y1 : Int32) : Option Int32 :=
  if S.1 92 2 ≤ y1 then (
    some ((-1))
  ) else (
    gm_ck (y1) 15 <|
    gm_bp1 (Tb_isLucky (S.1 93 y1.toNatClampNeg) S) fun v4 =>
    gm_ck (y1) 15 <|
    if v4 = S.1 94 y1.toNatClampNeg then (
      gm_lt (α := Int32) (y1 + 1) fun x7 =>
      rec x7
    ) else (
      some (y1)
    )
  )
def Lt_judge_L2 (S : gm_M) : Nat → Int32 → Option Int32
  | 0 => fun _ => none
  | n + 1 => Lt_judge_L2_b S (Lt_judge_L2 S n)
def Lt_judge (fl : Nat) (S : gm_M) : Option Int32 :=
  Lt_judge_L2 S fl 0
set_option maxHeartbeats 4000000 in
set_option maxRecDepth 100000 in
theorem Lt_judge_c (l : Launch) (cf : gm_C) (ad : Nat → Nat) {fl : Nat}    {S : gm_M} {r : Int32}  (hf : Lt_judge fl S = some r) : gm_Met l yX10_judge cX10_judge 2 (some .int) 1 21 cf ad gm_sC 106 [.ref (ad 0)] S (some (.int r)) S := by
  refine gm_met (by decide +kernel) (Nat.le_of_ble_eq_true rfl) ?_
  intro p e s m args below meth c C hr
  have C : gm_F p s m args meth c cf ad 106 cX10_judge 2 RX10 := C
  refine gm_lve (lv' := [(0, .ref (ad 0))]) rfl ?_
  unfold Lt_judge at hf
  refine gm_iconst (v := 0) C dX10_judge_0 (by decide) ?_
  refine gm_istore_n (lv' := [(1, .int 0), (0, .ref (ad 0))]) C dX10_judge_1 rfl (by decide) rfl ?_
  have L2 : ∀ (n : Nat) (y1 : Int32), Lt_judge_L2 S n y1 = some r → gm_G p l e { frames := 1, cells := 0, slots := 0, locals := 21 } s m args below meth c (MQ below (gm_Q cf ad gm_sC 106 (some (.int r)) S) args s 0 0 (gm_A ad 106)) cf ad gm_sC 106 2 S 2 [(0, .ref (ad 0)), (1, .int y1)] [] := by
    intro n
    induction n with
    | zero => intro y1 hf; cases (show (none : Option _) = some _ from hf)
    | succ n ih =>
      intro y1 hf
      have hf : Lt_judge_L2_b S (Lt_judge_L2 S n) y1 = some r := hf
      unfold Lt_judge_L2_b at hf
      refine gm_iload_n C dX10_judge_2 rfl 1 rfl ?_
      refine gm_aload_n C dX10_judge_3 rfl 0 rfl ?_
      refine gm_getr (j := 92) (u := 92) C (Nat.le_of_ble_eq_true rfl) rfl kc_10 (k := 5) rfl (by decide) rfl rfl wl_333 dX10_judge_4 ?_
      refine gm_geti C (Nat.le_of_ble_eq_true rfl) rfl kc_0 (k := 2) rfl (by decide) rfl wl_299 dX10_judge_7 ?_
      refine gm_icmp_ge C 49 dX10_judge_10 (by decide) (fun c2 => ?_) (fun c2 => ?_)
      · have hf := gm_it _ c2 hf
        refine gm_iconst (v := (-1)) C dX10_judge_49 (by decide) ?_
        exact gm_iretK C hr rfl dX10_judge_50 hf
      · have hf := gm_if _ c2 hf
        refine gm_aload_n C dX10_judge_13 rfl 0 rfl ?_
        refine gm_getr (j := 12) (u := 12) C (Nat.le_of_ble_eq_true rfl) rfl kc_10 (k := 2) rfl (by decide) rfl rfl wl_330 dX10_judge_14 ?_
        refine gm_aload_n C dX10_judge_17 rfl 0 rfl ?_
        refine gm_getr (j := 92) (u := 92) C (Nat.le_of_ble_eq_true rfl) rfl kc_10 (k := 5) rfl (by decide) rfl rfl wl_333 dX10_judge_18 ?_
        refine gm_getr (j := 1) (u := 93) C (Nat.le_of_ble_eq_true rfl) rfl kc_0 (k := 0) rfl (by decide) rfl rfl wl_295 dX10_judge_21 ?_
        refine gm_iload_n C dX10_judge_24 rfl 1 rfl ?_
        obtain ⟨h3, hf⟩ := gm_ck_s hf
        refine gm_iald C (Nat.le_of_ble_eq_true rfl) rfl rfl h3 dX10_judge_25 ?_
        obtain ⟨v4, ev4, hf⟩ := gm_bp1_s hf
        refine gm_callVi (As := [.int (S.1 93 y1.toNatClampNeg)]) C (Tb_isLucky_c l cf ad ev4) (Nat.le_of_ble_eq_true rfl) rfl kc_3 wy_Tb_isLucky rfl wl_575 rfl ⟨(Nat.le_of_ble_eq_true rfl), (Nat.le_of_ble_eq_true rfl)⟩ rfl (Nat.le_of_ble_eq_true rfl) dX10_judge_26 ?_
        refine gm_aload_n C dX10_judge_29 rfl 0 rfl ?_
        refine gm_getr (j := 92) (u := 92) C (Nat.le_of_ble_eq_true rfl) rfl kc_10 (k := 5) rfl (by decide) rfl rfl wl_333 dX10_judge_30 ?_
        refine gm_getr (j := 2) (u := 94) C (Nat.le_of_ble_eq_true rfl) rfl kc_0 (k := 1) rfl (by decide) rfl rfl wl_297 dX10_judge_33 ?_
        refine gm_iload_n C dX10_judge_36 rfl 1 rfl ?_
        obtain ⟨h5, hf⟩ := gm_ck_s hf
        refine gm_zald C (Nat.le_of_ble_eq_true rfl) rfl rfl h5 dX10_judge_37 ?_
        refine gm_icmp_eq C 43 dX10_judge_38 (by decide) (fun c6 => ?_) (fun c6 => ?_)
        · have hf := gm_it _ c6 hf
          obtain ⟨x7, ex7, hf⟩ := gm_lt_s hf
          refine gm_iinc (v := x7) (lv' := [(1, .int x7), (0, .ref (ad 0))]) (j := 1) C dX10_judge_43 rfl (by rw [ex7]; rfl) (by decide) rfl ?_
          refine gm_goto C 2 dX10_judge_46 (by decide) ?_
          exact gm_lvp [1, 0] rfl (ih _ hf)
        · have hf := gm_if _ c6 hf
          refine gm_iload_n C dX10_judge_41 rfl 1 rfl ?_
          exact gm_iretK C hr rfl dX10_judge_42 hf
  exact gm_lvp [1, 0] rfl (L2 fl _ hf)
theorem dX10_seed_0 : decode cX10_seed 0 = .ok (.iload_n 1, 1) := by decide +kernel
theorem dX10_seed_1 : decode cX10_seed 1 = .ok (.ifCond .ge 6, 3) := by decide +kernel
theorem dX10_seed_4 : decode cX10_seed 4 = .ok (.ldc 62, 2) := by decide +kernel
theorem dX10_seed_6 : decode cX10_seed 6 = .ok (.ireturn, 1) := by decide +kernel
theorem dX10_seed_7 : decode cX10_seed 7 = .ok (.aload_n 0, 1) := by decide +kernel
theorem dX10_seed_8 : decode cX10_seed 8 = .ok (.getfield 264, 3) := by decide +kernel
theorem dX10_seed_11 : decode cX10_seed 11 = .ok (.l2i, 1) := by decide +kernel
theorem dX10_seed_12 : decode cX10_seed 12 = .ok (.istore_n 2, 1) := by decide +kernel
theorem dX10_seed_13 : decode cX10_seed 13 = .ok (.aload_n 0, 1) := by decide +kernel
theorem dX10_seed_14 : decode cX10_seed 14 = .ok (.iload_n 1, 1) := by decide +kernel
theorem dX10_seed_15 : decode cX10_seed 15 = .ok (.i2l, 1) := by decide +kernel
theorem dX10_seed_16 : decode cX10_seed 16 = .ok (.putfield 264, 3) := by decide +kernel
theorem dX10_seed_19 : decode cX10_seed 19 = .ok (.iload_n 2, 1) := by decide +kernel
theorem dX10_seed_20 : decode cX10_seed 20 = .ok (.ireturn, 1) := by decide +kernel
def Lt_seed (a0 : Int32) (S : gm_M) : Option (Int32 × gm_M) :=
  if (0 : Int32) ≤ a0 then (
    gm_lt (α := Int32) ((S.2 0 7 : Int64).toInt32) fun x2 =>
    gm_lt (α := gm_M) (gm_uj S 0 7 ((a0 : Int32).toInt64)) fun S3 =>
    some (x2, S3)
  ) else (
    some ((-1000000002), S)
  )
set_option maxHeartbeats 4000000 in
set_option maxRecDepth 100000 in
theorem Lt_seed_c (l : Launch) (cf : gm_C) (ad : Nat → Nat)    {a0 : Int32} {S : gm_M} {r : Int32} {S'  : gm_M} (hf : Lt_seed a0 S = some (r, S')) : gm_Met l yX10_seed cX10_seed 3 (some .int) 0 0 cf ad gm_sC 106 [.ref (ad 0), .int a0] S (some (.int r)) S' := by
  refine gm_met (by decide +kernel) (Nat.le_of_ble_eq_true rfl) ?_
  intro p e s m args below meth c C hr
  have C : gm_F p s m args meth c cf ad 106 cX10_seed 3 RX10 := C
  refine gm_lve (lv' := [(0, .ref (ad 0)), (1, .int a0)]) rfl ?_
  unfold Lt_seed at hf
  refine gm_iload_n C dX10_seed_0 rfl 1 rfl ?_
  refine gm_if_ge C 7 dX10_seed_1 (by decide) (fun c1 => ?_) (fun c1 => ?_)
  · have hf := gm_it _ c1 hf
    refine gm_aload_n C dX10_seed_7 rfl 0 rfl ?_
    refine gm_getl C (Nat.le_of_ble_eq_true rfl) rfl kc_10 (k := 7) rfl (by decide) rfl wl_335 dX10_seed_8 ?_
    refine gm_l2i C dX10_seed_11 rfl ?_
    obtain ⟨x2, ex2, hf⟩ := gm_lt_s hf
    refine gm_topi ex2 ?_
    refine gm_istore_n (lv' := [(2, .int x2), (0, .ref (ad 0)), (1, .int a0)]) C dX10_seed_12 rfl (by decide) rfl ?_
    refine gm_aload_n C dX10_seed_13 rfl 1 rfl ?_
    refine gm_iload_n C dX10_seed_14 rfl 2 rfl ?_
    refine gm_i2l C dX10_seed_15 rfl ?_
    refine gm_putl C (Nat.le_of_ble_eq_true rfl) rfl kc_10 (k := 7) rfl (by decide) rfl rfl (kc_10.2.2.2.1 7 (by decide)) rfl rfl wl_335 dX10_seed_16 ?_
    obtain ⟨S3, eS3, hf⟩ := gm_lt_s hf
    refine gm_topm eS3 ?_
    refine gm_iload_n C dX10_seed_19 rfl 0 rfl ?_
    exact gm_iret C hr rfl dX10_seed_20 hf
  · have hf := gm_if _ c1 hf
    refine gm_ldc (v := (-1000000002)) C wl_360 dX10_seed_4 ?_
    exact gm_iret C hr rfl dX10_seed_6 hf
theorem dX10_keep_0 : decode cX10_keep 0 = .ok (.iload_n 1, 1) := by decide +kernel
theorem dX10_keep_1 : decode cX10_keep 1 = .ok (.ifCond .lt 8, 3) := by decide +kernel
theorem dX10_keep_4 : decode cX10_keep 4 = .ok (.iload_n 1, 1) := by decide +kernel
theorem dX10_keep_5 : decode cX10_keep 5 = .ok (.iconst 2, 1) := by decide +kernel
theorem dX10_keep_6 : decode cX10_keep 6 = .ok (.if_icmp .lt 6, 3) := by decide +kernel
theorem dX10_keep_9 : decode cX10_keep 9 = .ok (.ldc 143, 2) := by decide +kernel
theorem dX10_keep_11 : decode cX10_keep 11 = .ok (.ireturn, 1) := by decide +kernel
theorem dX10_keep_12 : decode cX10_keep 12 = .ok (.aload_n 0, 1) := by decide +kernel
theorem dX10_keep_13 : decode cX10_keep 13 = .ok (.getfield 53, 3) := by decide +kernel
theorem dX10_keep_16 : decode cX10_keep 16 = .ok (.iload_n 1, 1) := by decide +kernel
theorem dX10_keep_17 : decode cX10_keep 17 = .ok (.aaload, 1) := by decide +kernel
theorem dX10_keep_18 : decode cX10_keep 18 = .ok (.iconst 1, 1) := by decide +kernel
theorem dX10_keep_19 : decode cX10_keep 19 = .ok (.putfield 105, 3) := by decide +kernel
theorem dX10_keep_22 : decode cX10_keep 22 = .ok (.aload_n 0, 1) := by decide +kernel
theorem dX10_keep_23 : decode cX10_keep 23 = .ok (.getfield 53, 3) := by decide +kernel
theorem dX10_keep_26 : decode cX10_keep 26 = .ok (.iload_n 1, 1) := by decide +kernel
theorem dX10_keep_27 : decode cX10_keep 27 = .ok (.aaload, 1) := by decide +kernel
theorem dX10_keep_28 : decode cX10_keep 28 = .ok (.aload_n 0, 1) := by decide +kernel
theorem dX10_keep_29 : decode cX10_keep 29 = .ok (.getfield 264, 3) := by decide +kernel
theorem dX10_keep_32 : decode cX10_keep 32 = .ok (.putfield 268, 3) := by decide +kernel
theorem dX10_keep_35 : decode cX10_keep 35 = .ok (.aload_n 0, 1) := by decide +kernel
theorem dX10_keep_36 : decode cX10_keep 36 = .ok (.getfield 53, 3) := by decide +kernel
theorem dX10_keep_39 : decode cX10_keep 39 = .ok (.iload_n 1, 1) := by decide +kernel
theorem dX10_keep_40 : decode cX10_keep 40 = .ok (.aaload, 1) := by decide +kernel
theorem dX10_keep_41 : decode cX10_keep 41 = .ok (.getfield 271, 3) := by decide +kernel
theorem dX10_keep_44 : decode cX10_keep 44 = .ok (.aload_n 0, 1) := by decide +kernel
theorem dX10_keep_45 : decode cX10_keep 45 = .ok (.getfield 19, 3) := by decide +kernel
theorem dX10_keep_48 : decode cX10_keep 48 = .ok (.invokevirtual 87, 3) := by decide +kernel
theorem dX10_keep_51 : decode cX10_keep 51 = .ok (.aload_n 0, 1) := by decide +kernel
theorem dX10_keep_52 : decode cX10_keep 52 = .ok (.getfield 33, 3) := by decide +kernel
theorem dX10_keep_55 : decode cX10_keep 55 = .ok (.iconst 0, 1) := by decide +kernel
theorem dX10_keep_56 : decode cX10_keep 56 = .ok (.putfield 94, 3) := by decide +kernel
theorem dX10_keep_59 : decode cX10_keep 59 = .ok (.iconst 1, 1) := by decide +kernel
theorem dX10_keep_60 : decode cX10_keep 60 = .ok (.ireturn, 1) := by decide +kernel
def Lt_keep (a0 : Int32) (S : gm_M) : Option (Int32 × gm_M) :=
  if a0 < 0 then (
    some ((-1000000001), S)
  ) else (
    if a0 < 2 then (
      gm_ck (a0) 2 <|
      gm_lt (α := gm_M) (gm_ui S (96 + 5 * a0.toNatClampNeg) 1 1) fun S5 =>
      gm_ck (a0) 2 <|
      gm_lt (α := gm_M) (gm_uj S5 (96 + 5 * a0.toNatClampNeg) 2 (S5.2 0 7)) fun S8 =>
      gm_ck (a0) 2 <|
      gm_bp1 (Tr_copyFrom ((96 + 5 * a0.toNatClampNeg) + 1) 8 S8) fun S11 =>
      gm_lt (α := gm_M) (gm_ui S11 22 2 0) fun S12 =>
      some (1, S12)
    ) else (
      some ((-1000000001), S)
    )
  )
set_option maxHeartbeats 4000000 in
set_option maxRecDepth 100000 in
theorem Lt_keep_c (l : Launch) (cf : gm_C) (ad : Nat → Nat)    {a0 : Int32} {S : gm_M} {r : Int32} {S'  : gm_M} (hf : Lt_keep a0 S = some (r, S')) : gm_Met l yX10_keep cX10_keep 2 (some .int) 2 61 cf ad gm_sC 106 [.ref (ad 0), .int a0] S (some (.int r)) S' := by
  refine gm_met (by decide +kernel) (Nat.le_of_ble_eq_true rfl) ?_
  intro p e s m args below meth c C hr
  have C : gm_F p s m args meth c cf ad 106 cX10_keep 2 RX10 := C
  refine gm_lve (lv' := [(0, .ref (ad 0)), (1, .int a0)]) rfl ?_
  unfold Lt_keep at hf
  refine gm_iload_n C dX10_keep_0 rfl 1 rfl ?_
  refine gm_if_lt C 9 dX10_keep_1 (by decide) (fun c1 => ?_) (fun c1 => ?_)
  · have hf := gm_it _ c1 hf
    refine gm_ldc (v := (-1000000001)) C wl_617 dX10_keep_9 ?_
    exact gm_iret C hr rfl dX10_keep_11 hf
  · have hf := gm_if _ c1 hf
    refine gm_iload_n C dX10_keep_4 rfl 1 rfl ?_
    refine gm_iconst (v := 2) C dX10_keep_5 (by decide) ?_
    refine gm_icmp_lt C 12 dX10_keep_6 (by decide) (fun c2 => ?_) (fun c2 => ?_)
    · have hf := gm_it _ c2 hf
      refine gm_aload_n C dX10_keep_12 rfl 0 rfl ?_
      refine gm_getr (j := 95) (u := 95) C (Nat.le_of_ble_eq_true rfl) rfl kc_10 (k := 6) rfl (by decide) rfl rfl wl_334 dX10_keep_13 ?_
      refine gm_iload_n C dX10_keep_16 rfl 1 rfl ?_
      obtain ⟨h3, hf⟩ := gm_ck_s hf
      refine gm_aald (k := 6) C (Nat.le_of_ble_eq_true rfl) rfl (by decide) rfl rfl h3 dX10_keep_17 ?_
      have h4 := gm_of_im h3
      refine gm_iconst (v := 1) C dX10_keep_18 (by decide) ?_
      refine gm_puti C (gm_im_l0 h4) (gm_im_k0 h4) kc_2 (k := 1) rfl (by decide) rfl rfl (kc_2.2.2.2.1 1 (by decide)) rfl rfl wl_319 dX10_keep_19 ?_
      obtain ⟨S5, eS5, hf⟩ := gm_lt_s hf
      refine gm_topm eS5 ?_
      refine gm_aload_n C dX10_keep_22 rfl 0 rfl ?_
      refine gm_getr (j := 95) (u := 95) C (Nat.le_of_ble_eq_true rfl) rfl kc_10 (k := 6) rfl (by decide) rfl rfl wl_334 dX10_keep_23 ?_
      refine gm_iload_n C dX10_keep_26 rfl 1 rfl ?_
      obtain ⟨h6, hf⟩ := gm_ck_s hf
      refine gm_aald (k := 6) C (Nat.le_of_ble_eq_true rfl) rfl (by decide) rfl rfl h6 dX10_keep_27 ?_
      have h7 := gm_of_im h6
      refine gm_aload_n C dX10_keep_28 rfl 0 rfl ?_
      refine gm_getl C (Nat.le_of_ble_eq_true rfl) rfl kc_10 (k := 7) rfl (by decide) rfl wl_335 dX10_keep_29 ?_
      refine gm_putl C (gm_im_l0 h7) (gm_im_k0 h7) kc_2 (k := 2) rfl (by decide) rfl rfl (kc_2.2.2.2.1 2 (by decide)) rfl rfl wl_320 dX10_keep_32 ?_
      obtain ⟨S8, eS8, hf⟩ := gm_lt_s hf
      refine gm_topm eS8 ?_
      refine gm_aload_n C dX10_keep_35 rfl 0 rfl ?_
      refine gm_getr (j := 95) (u := 95) C (Nat.le_of_ble_eq_true rfl) rfl kc_10 (k := 6) rfl (by decide) rfl rfl wl_334 dX10_keep_36 ?_
      refine gm_iload_n C dX10_keep_39 rfl 1 rfl ?_
      obtain ⟨h9, hf⟩ := gm_ck_s hf
      refine gm_aald (k := 6) C (Nat.le_of_ble_eq_true rfl) rfl (by decide) rfl rfl h9 dX10_keep_40 ?_
      have h10 := gm_of_im h9
      refine gm_getr (j := 1) (u := ((96 + 5 * a0.toNatClampNeg) + 1)) C (gm_im_l0 h10) (gm_im_k0 h10) kc_2 (k := 0) rfl (by decide) rfl rfl wl_318 dX10_keep_41 ?_
      refine gm_aload_n C dX10_keep_44 rfl 0 rfl ?_
      refine gm_getr (j := 8) (u := 8) C (Nat.le_of_ble_eq_true rfl) rfl kc_10 (k := 1) rfl (by decide) rfl rfl wl_329 dX10_keep_45 ?_
      obtain ⟨S11, eS11, hf⟩ := gm_bp1_s hf
      refine gm_callVv (As := [.ref (ad 8)]) C (Tr_copyFrom_c l cf ad (gm_im_tr h10) gm_tr_8 eS11) (gm_tr_l0 (gm_im_tr h10)) (gm_tr_k0 (gm_im_tr h10)) kc_9 wy_Tr_copyFrom rfl wl_473 rfl ⟨(Nat.le_of_ble_eq_true rfl), (Nat.le_of_ble_eq_true rfl)⟩ rfl (Nat.le_of_ble_eq_true rfl) dX10_keep_48 ?_
      refine gm_aload_n C dX10_keep_51 rfl 0 rfl ?_
      refine gm_getr (j := 22) (u := 22) C (Nat.le_of_ble_eq_true rfl) rfl kc_10 (k := 3) rfl (by decide) rfl rfl wl_331 dX10_keep_52 ?_
      refine gm_iconst (v := 0) C dX10_keep_55 (by decide) ?_
      refine gm_puti C (Nat.le_of_ble_eq_true rfl) rfl kc_4 (k := 2) rfl (by decide) rfl rfl (kc_4.2.2.2.1 2 (by decide)) rfl rfl wl_247 dX10_keep_56 ?_
      obtain ⟨S12, eS12, hf⟩ := gm_lt_s hf
      refine gm_topm eS12 ?_
      refine gm_iconst (v := 1) C dX10_keep_59 (by decide) ?_
      exact gm_iret C hr rfl dX10_keep_60 hf
    · have hf := gm_if _ c2 hf
      refine gm_ldc (v := (-1000000001)) C wl_617 dX10_keep_9 ?_
      exact gm_iret C hr rfl dX10_keep_11 hf
theorem dX10_goBack_0 : decode cX10_goBack 0 = .ok (.iload_n 1, 1) := by decide +kernel
theorem dX10_goBack_1 : decode cX10_goBack 1 = .ok (.ifCond .lt 8, 3) := by decide +kernel
theorem dX10_goBack_4 : decode cX10_goBack 4 = .ok (.iload_n 1, 1) := by decide +kernel
theorem dX10_goBack_5 : decode cX10_goBack 5 = .ok (.iconst 2, 1) := by decide +kernel
theorem dX10_goBack_6 : decode cX10_goBack 6 = .ok (.if_icmp .lt 6, 3) := by decide +kernel
theorem dX10_goBack_9 : decode cX10_goBack 9 = .ok (.ldc 143, 2) := by decide +kernel
theorem dX10_goBack_11 : decode cX10_goBack 11 = .ok (.ireturn, 1) := by decide +kernel
theorem dX10_goBack_12 : decode cX10_goBack 12 = .ok (.aload_n 0, 1) := by decide +kernel
theorem dX10_goBack_13 : decode cX10_goBack 13 = .ok (.getfield 53, 3) := by decide +kernel
theorem dX10_goBack_16 : decode cX10_goBack 16 = .ok (.iload_n 1, 1) := by decide +kernel
theorem dX10_goBack_17 : decode cX10_goBack 17 = .ok (.aaload, 1) := by decide +kernel
theorem dX10_goBack_18 : decode cX10_goBack 18 = .ok (.getfield 105, 3) := by decide +kernel
theorem dX10_goBack_21 : decode cX10_goBack 21 = .ok (.ifCond .ne 6, 3) := by decide +kernel
theorem dX10_goBack_24 : decode cX10_goBack 24 = .ok (.ldc 201, 2) := by decide +kernel
theorem dX10_goBack_26 : decode cX10_goBack 26 = .ok (.ireturn, 1) := by decide +kernel
theorem dX10_goBack_27 : decode cX10_goBack 27 = .ok (.aload_n 0, 1) := by decide +kernel
theorem dX10_goBack_28 : decode cX10_goBack 28 = .ok (.aload_n 0, 1) := by decide +kernel
theorem dX10_goBack_29 : decode cX10_goBack 29 = .ok (.getfield 53, 3) := by decide +kernel
theorem dX10_goBack_32 : decode cX10_goBack 32 = .ok (.iload_n 1, 1) := by decide +kernel
theorem dX10_goBack_33 : decode cX10_goBack 33 = .ok (.aaload, 1) := by decide +kernel
theorem dX10_goBack_34 : decode cX10_goBack 34 = .ok (.getfield 268, 3) := by decide +kernel
theorem dX10_goBack_37 : decode cX10_goBack 37 = .ok (.putfield 264, 3) := by decide +kernel
theorem dX10_goBack_40 : decode cX10_goBack 40 = .ok (.aload_n 0, 1) := by decide +kernel
theorem dX10_goBack_41 : decode cX10_goBack 41 = .ok (.getfield 19, 3) := by decide +kernel
theorem dX10_goBack_44 : decode cX10_goBack 44 = .ok (.aload_n 0, 1) := by decide +kernel
theorem dX10_goBack_45 : decode cX10_goBack 45 = .ok (.getfield 53, 3) := by decide +kernel
theorem dX10_goBack_48 : decode cX10_goBack 48 = .ok (.iload_n 1, 1) := by decide +kernel
theorem dX10_goBack_49 : decode cX10_goBack 49 = .ok (.aaload, 1) := by decide +kernel
theorem dX10_goBack_50 : decode cX10_goBack 50 = .ok (.getfield 271, 3) := by decide +kernel
theorem dX10_goBack_53 : decode cX10_goBack 53 = .ok (.invokevirtual 87, 3) := by decide +kernel
theorem dX10_goBack_56 : decode cX10_goBack 56 = .ok (.aload_n 0, 1) := by decide +kernel
theorem dX10_goBack_57 : decode cX10_goBack 57 = .ok (.getfield 26, 3) := by decide +kernel
theorem dX10_goBack_60 : decode cX10_goBack 60 = .ok (.aload_n 0, 1) := by decide +kernel
theorem dX10_goBack_61 : decode cX10_goBack 61 = .ok (.getfield 19, 3) := by decide +kernel
theorem dX10_goBack_64 : decode cX10_goBack 64 = .ok (.invokevirtual 91, 3) := by decide +kernel
theorem dX10_goBack_67 : decode cX10_goBack 67 = .ok (.aload_n 0, 1) := by decide +kernel
theorem dX10_goBack_68 : decode cX10_goBack 68 = .ok (.getfield 33, 3) := by decide +kernel
theorem dX10_goBack_71 : decode cX10_goBack 71 = .ok (.iconst 0, 1) := by decide +kernel
theorem dX10_goBack_72 : decode cX10_goBack 72 = .ok (.putfield 94, 3) := by decide +kernel
theorem dX10_goBack_75 : decode cX10_goBack 75 = .ok (.iconst 1, 1) := by decide +kernel
theorem dX10_goBack_76 : decode cX10_goBack 76 = .ok (.ireturn, 1) := by decide +kernel
def Lt_goBack (fl : Nat) (a0 : Int32) (S : gm_M) : Option (Int32 × gm_M) :=
  if a0 < 0 then (
    some ((-1000000001), S)
  ) else (
    if a0 < 2 then (
      gm_ck (a0) 2 <|
      if S.1 (96 + 5 * a0.toNatClampNeg) 1 = 0 then (
        some ((-1000000003), S)
      ) else (
        gm_ck (a0) 2 <|
        gm_lt (α := gm_M) (gm_uj S 0 7 (S.2 (96 + 5 * a0.toNatClampNeg) 2)) fun S8 =>
        gm_ck (a0) 2 <|
        gm_bp1 (Tr_copyFrom 8 ((96 + 5 * a0.toNatClampNeg) + 1) S8) fun S11 =>
        gm_bp1 (Tb_follow fl S11) fun S12 =>
        gm_lt (α := gm_M) (gm_ui S12 22 2 0) fun S13 =>
        some (1, S13)
      )
    ) else (
      some ((-1000000001), S)
    )
  )
set_option maxHeartbeats 4000000 in
set_option maxRecDepth 100000 in
theorem Lt_goBack_c (l : Launch) (cf : gm_C) (ad : Nat → Nat) {fl : Nat}   {a0 : Int32} {S : gm_M} {r : Int32} {S'  : gm_M} (hf : Lt_goBack fl a0 S = some (r, S')) : gm_Met l yX10_goBack cX10_goBack 2 (some .int) 5 103 cf ad gm_sC 106 [.ref (ad 0), .int a0] S (some (.int r)) S' := by
  refine gm_met (by decide +kernel) (Nat.le_of_ble_eq_true rfl) ?_
  intro p e s m args below meth c C hr
  have C : gm_F p s m args meth c cf ad 106 cX10_goBack 2 RX10 := C
  refine gm_lve (lv' := [(0, .ref (ad 0)), (1, .int a0)]) rfl ?_
  unfold Lt_goBack at hf
  refine gm_iload_n C dX10_goBack_0 rfl 1 rfl ?_
  refine gm_if_lt C 9 dX10_goBack_1 (by decide) (fun c1 => ?_) (fun c1 => ?_)
  · have hf := gm_it _ c1 hf
    refine gm_ldc (v := (-1000000001)) C wl_617 dX10_goBack_9 ?_
    exact gm_iret C hr rfl dX10_goBack_11 hf
  · have hf := gm_if _ c1 hf
    refine gm_iload_n C dX10_goBack_4 rfl 1 rfl ?_
    refine gm_iconst (v := 2) C dX10_goBack_5 (by decide) ?_
    refine gm_icmp_lt C 12 dX10_goBack_6 (by decide) (fun c2 => ?_) (fun c2 => ?_)
    · have hf := gm_it _ c2 hf
      refine gm_aload_n C dX10_goBack_12 rfl 0 rfl ?_
      refine gm_getr (j := 95) (u := 95) C (Nat.le_of_ble_eq_true rfl) rfl kc_10 (k := 6) rfl (by decide) rfl rfl wl_334 dX10_goBack_13 ?_
      refine gm_iload_n C dX10_goBack_16 rfl 1 rfl ?_
      obtain ⟨h3, hf⟩ := gm_ck_s hf
      refine gm_aald (k := 6) C (Nat.le_of_ble_eq_true rfl) rfl (by decide) rfl rfl h3 dX10_goBack_17 ?_
      have h4 := gm_of_im h3
      refine gm_geti C (gm_im_l0 h4) (gm_im_k0 h4) kc_2 (k := 1) rfl (by decide) rfl wl_319 dX10_goBack_18 ?_
      refine gm_if_ne C 27 dX10_goBack_21 (by decide) (fun c5 => ?_) (fun c5 => ?_)
      · have hf := gm_if _ c5 hf
        refine gm_aload_n C dX10_goBack_27 rfl 0 rfl ?_
        refine gm_aload_n C dX10_goBack_28 rfl 0 rfl ?_
        refine gm_getr (j := 95) (u := 95) C (Nat.le_of_ble_eq_true rfl) rfl kc_10 (k := 6) rfl (by decide) rfl rfl wl_334 dX10_goBack_29 ?_
        refine gm_iload_n C dX10_goBack_32 rfl 1 rfl ?_
        obtain ⟨h6, hf⟩ := gm_ck_s hf
        refine gm_aald (k := 6) C (Nat.le_of_ble_eq_true rfl) rfl (by decide) rfl rfl h6 dX10_goBack_33 ?_
        have h7 := gm_of_im h6
        refine gm_getl C (gm_im_l0 h7) (gm_im_k0 h7) kc_2 (k := 2) rfl (by decide) rfl wl_320 dX10_goBack_34 ?_
        refine gm_putl C (Nat.le_of_ble_eq_true rfl) rfl kc_10 (k := 7) rfl (by decide) rfl rfl (kc_10.2.2.2.1 7 (by decide)) rfl rfl wl_335 dX10_goBack_37 ?_
        obtain ⟨S8, eS8, hf⟩ := gm_lt_s hf
        refine gm_topm eS8 ?_
        refine gm_aload_n C dX10_goBack_40 rfl 0 rfl ?_
        refine gm_getr (j := 8) (u := 8) C (Nat.le_of_ble_eq_true rfl) rfl kc_10 (k := 1) rfl (by decide) rfl rfl wl_329 dX10_goBack_41 ?_
        refine gm_aload_n C dX10_goBack_44 rfl 0 rfl ?_
        refine gm_getr (j := 95) (u := 95) C (Nat.le_of_ble_eq_true rfl) rfl kc_10 (k := 6) rfl (by decide) rfl rfl wl_334 dX10_goBack_45 ?_
        refine gm_iload_n C dX10_goBack_48 rfl 1 rfl ?_
        obtain ⟨h9, hf⟩ := gm_ck_s hf
        refine gm_aald (k := 6) C (Nat.le_of_ble_eq_true rfl) rfl (by decide) rfl rfl h9 dX10_goBack_49 ?_
        have h10 := gm_of_im h9
        refine gm_getr (j := 1) (u := ((96 + 5 * a0.toNatClampNeg) + 1)) C (gm_im_l0 h10) (gm_im_k0 h10) kc_2 (k := 0) rfl (by decide) rfl rfl wl_318 dX10_goBack_50 ?_
        obtain ⟨S11, eS11, hf⟩ := gm_bp1_s hf
        refine gm_callVv (As := [.ref (ad ((96 + 5 * a0.toNatClampNeg) + 1))]) C (Tr_copyFrom_c l cf ad gm_tr_8 (gm_im_tr h10) eS11) (Nat.le_of_ble_eq_true rfl) rfl kc_9 wy_Tr_copyFrom rfl wl_473 rfl ⟨(Nat.le_of_ble_eq_true rfl), (Nat.le_of_ble_eq_true rfl)⟩ rfl (Nat.le_of_ble_eq_true rfl) dX10_goBack_53 ?_
        refine gm_aload_n C dX10_goBack_56 rfl 0 rfl ?_
        refine gm_getr (j := 12) (u := 12) C (Nat.le_of_ble_eq_true rfl) rfl kc_10 (k := 2) rfl (by decide) rfl rfl wl_330 dX10_goBack_57 ?_
        refine gm_aload_n C dX10_goBack_60 rfl 0 rfl ?_
        refine gm_getr (j := 8) (u := 8) C (Nat.le_of_ble_eq_true rfl) rfl kc_10 (k := 1) rfl (by decide) rfl rfl wl_329 dX10_goBack_61 ?_
        obtain ⟨S12, eS12, hf⟩ := gm_bp1_s hf
        refine gm_callVv (As := [.ref (ad 8)]) C (Tb_follow_c l cf ad eS12) (Nat.le_of_ble_eq_true rfl) rfl kc_3 wy_Tb_follow rfl wl_480 rfl ⟨(Nat.le_of_ble_eq_true rfl), (Nat.le_of_ble_eq_true rfl)⟩ rfl (Nat.le_of_ble_eq_true rfl) dX10_goBack_64 ?_
        refine gm_aload_n C dX10_goBack_67 rfl 0 rfl ?_
        refine gm_getr (j := 22) (u := 22) C (Nat.le_of_ble_eq_true rfl) rfl kc_10 (k := 3) rfl (by decide) rfl rfl wl_331 dX10_goBack_68 ?_
        refine gm_iconst (v := 0) C dX10_goBack_71 (by decide) ?_
        refine gm_puti C (Nat.le_of_ble_eq_true rfl) rfl kc_4 (k := 2) rfl (by decide) rfl rfl (kc_4.2.2.2.1 2 (by decide)) rfl rfl wl_247 dX10_goBack_72 ?_
        obtain ⟨S13, eS13, hf⟩ := gm_lt_s hf
        refine gm_topm eS13 ?_
        refine gm_iconst (v := 1) C dX10_goBack_75 (by decide) ?_
        exact gm_iret C hr rfl dX10_goBack_76 hf
      · have hf := gm_it _ c5 hf
        refine gm_ldc (v := (-1000000003)) C wl_672 dX10_goBack_24 ?_
        exact gm_iret C hr rfl dX10_goBack_26 hf
    · have hf := gm_if _ c2 hf
      refine gm_ldc (v := (-1000000001)) C wl_617 dX10_goBack_9 ?_
      exact gm_iret C hr rfl dX10_goBack_11 hf
