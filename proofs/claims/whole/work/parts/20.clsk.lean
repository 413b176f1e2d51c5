theorem dX10_sell_0 : decode cX10_sell 0 = .ok (.aload_n 0, 1) := by decide +kernel
theorem dX10_sell_1 : decode cX10_sell 1 = .ok (.getfield 19, 3) := by decide +kernel
theorem dX10_sell_4 : decode cX10_sell 4 = .ok (.iload_n 1, 1) := by decide +kernel
theorem dX10_sell_5 : decode cX10_sell 5 = .ok (.invokevirtual 164, 3) := by decide +kernel
theorem dX10_sell_8 : decode cX10_sell 8 = .ok (.ifCond .eq 14, 3) := by decide +kernel
theorem dX10_sell_11 : decode cX10_sell 11 = .ok (.aload_n 0, 1) := by decide +kernel
theorem dX10_sell_12 : decode cX10_sell 12 = .ok (.getfield 19, 3) := by decide +kernel
theorem dX10_sell_15 : decode cX10_sell 15 = .ok (.iload_n 2, 1) := by decide +kernel
theorem dX10_sell_16 : decode cX10_sell 16 = .ok (.invokevirtual 185, 3) := by decide +kernel
theorem dX10_sell_19 : decode cX10_sell 19 = .ok (.ifCond .ne 6, 3) := by decide +kernel
theorem dX10_sell_22 : decode cX10_sell 22 = .ok (.ldc 143, 2) := by decide +kernel
theorem dX10_sell_24 : decode cX10_sell 24 = .ok (.ireturn, 1) := by decide +kernel
theorem dX10_sell_25 : decode cX10_sell 25 = .ok (.aload_n 0, 1) := by decide +kernel
theorem dX10_sell_26 : decode cX10_sell 26 = .ok (.getfield 19, 3) := by decide +kernel
theorem dX10_sell_29 : decode cX10_sell 29 = .ok (.iload_n 1, 1) := by decide +kernel
theorem dX10_sell_30 : decode cX10_sell 30 = .ok (.invokevirtual 170, 3) := by decide +kernel
theorem dX10_sell_33 : decode cX10_sell 33 = .ok (.ifCond .ne 6, 3) := by decide +kernel
theorem dX10_sell_36 : decode cX10_sell 36 = .ok (.ldc 201, 2) := by decide +kernel
theorem dX10_sell_38 : decode cX10_sell 38 = .ok (.ireturn, 1) := by decide +kernel
theorem dX10_sell_39 : decode cX10_sell 39 = .ok (.aload_n 0, 1) := by decide +kernel
theorem dX10_sell_40 : decode cX10_sell 40 = .ok (.getfield 33, 3) := by decide +kernel
theorem dX10_sell_43 : decode cX10_sell 43 = .ok (.aload_n 0, 1) := by decide +kernel
theorem dX10_sell_44 : decode cX10_sell 44 = .ok (.getfield 19, 3) := by decide +kernel
theorem dX10_sell_47 : decode cX10_sell 47 = .ok (.invokevirtual 202, 3) := by decide +kernel
theorem dX10_sell_50 : decode cX10_sell 50 = .ok (.aload_n 0, 1) := by decide +kernel
theorem dX10_sell_51 : decode cX10_sell 51 = .ok (.getfield 19, 3) := by decide +kernel
theorem dX10_sell_54 : decode cX10_sell 54 = .ok (.iload_n 1, 1) := by decide +kernel
theorem dX10_sell_55 : decode cX10_sell 55 = .ok (.invokevirtual 167, 3) := by decide +kernel
theorem dX10_sell_58 : decode cX10_sell 58 = .ok (.istore_n 3, 1) := by decide +kernel
theorem dX10_sell_59 : decode cX10_sell 59 = .ok (.aload_n 0, 1) := by decide +kernel
theorem dX10_sell_60 : decode cX10_sell 60 = .ok (.iload_n 1, 1) := by decide +kernel
theorem dX10_sell_61 : decode cX10_sell 61 = .ok (.iload_n 2, 1) := by decide +kernel
theorem dX10_sell_62 : decode cX10_sell 62 = .ok (.invokevirtual 205, 3) := by decide +kernel
theorem dX10_sell_65 : decode cX10_sell 65 = .ok (.pop, 1) := by decide +kernel
theorem dX10_sell_66 : decode cX10_sell 66 = .ok (.iload_n 3, 1) := by decide +kernel
theorem dX10_sell_67 : decode cX10_sell 67 = .ok (.ireturn, 1) := by decide +kernel
def Lt_sell (fl : Nat) (a0 : Int32) (a1 : Int32) (S : gm_M) : Option (Int32 × gm_M) :=
  gm_bp1 (Tr_hasRoll 8 a0 S) fun v1 =>
  if v1 = 0 then (
    some ((-1000000001), S)
  ) else (
    gm_bp1 (Tr_hasRider 8 a1 S) fun v3 =>
    if v3 = 0 then (
      some ((-1000000001), S)
    ) else (
      gm_bp1 (Tr_ticketsLeft 8 a0 S) fun v5 =>
      if v5 = 0 then (
        some ((-1000000003), S)
      ) else (
        gm_bp1 (Ps_remember S) fun S7 =>
        gm_bp1 (Tr_nextTicket 8 a0 S7) fun v8 =>
        gm_bp2 (Lt_sellOne fl a0 a1 S7) fun v9 S10 =>
        some (v8, S10)
      )
    )
  )
set_option maxHeartbeats 4000000 in
set_option maxRecDepth 100000 in
theorem Lt_sell_c (l : Launch) (cf : gm_C) (ad : Nat → Nat) {fl : Nat}   {a0 : Int32} {a1 : Int32} {S : gm_M} {r : Int32} {S'  : gm_M} (hf : Lt_sell fl a0 a1 S = some (r, S')) : gm_Met l yX10_sell cX10_sell 4 (some .int) 5 106 cf ad gm_sC 106 [.ref (ad 0), .int a0, .int a1] S (some (.int r)) S' := by
  refine gm_met (by decide +kernel) (Nat.le_of_ble_eq_true rfl) ?_
  intro p e s m args below meth c C hr
  have C : gm_F p s m args meth c cf ad 106 cX10_sell 4 RX10 := C
  refine gm_lve (lv' := [(0, .ref (ad 0)), (1, .int a0), (2, .int a1)]) rfl ?_
  unfold Lt_sell at hf
  refine gm_aload_n C dX10_sell_0 rfl 0 rfl ?_
  refine gm_getr (j := 8) (u := 8) C (Nat.le_of_ble_eq_true rfl) rfl kc_10 (k := 1) rfl (by decide) rfl rfl wl_329 dX10_sell_1 ?_
  refine gm_iload_n C dX10_sell_4 rfl 1 rfl ?_
  obtain ⟨v1, ev1, hf⟩ := gm_bp1_s hf
  refine gm_callVi (As := [.int a0]) C (Tr_hasRoll_c l cf ad gm_tr_8 ev1) (Nat.le_of_ble_eq_true rfl) rfl kc_9 wy_Tr_hasRoll rfl wl_630 rfl ⟨(Nat.le_of_ble_eq_true rfl), (Nat.le_of_ble_eq_true rfl)⟩ rfl (Nat.le_of_ble_eq_true rfl) dX10_sell_5 ?_
  refine gm_if_eq C 22 dX10_sell_8 (by decide) (fun c2 => ?_) (fun c2 => ?_)
  · have hf := gm_it _ c2 hf
    refine gm_ldc (v := (-1000000001)) C wl_617 dX10_sell_22 ?_
    exact gm_iret C hr rfl dX10_sell_24 hf
  · have hf := gm_if _ c2 hf
    refine gm_aload_n C dX10_sell_11 rfl 0 rfl ?_
    refine gm_getr (j := 8) (u := 8) C (Nat.le_of_ble_eq_true rfl) rfl kc_10 (k := 1) rfl (by decide) rfl rfl wl_329 dX10_sell_12 ?_
    refine gm_iload_n C dX10_sell_15 rfl 2 rfl ?_
    obtain ⟨v3, ev3, hf⟩ := gm_bp1_s hf
    refine gm_callVi (As := [.int a1]) C (Tr_hasRider_c l cf ad gm_tr_8 ev3) (Nat.le_of_ble_eq_true rfl) rfl kc_9 wy_Tr_hasRider rfl wl_651 rfl ⟨(Nat.le_of_ble_eq_true rfl), (Nat.le_of_ble_eq_true rfl)⟩ rfl (Nat.le_of_ble_eq_true rfl) dX10_sell_16 ?_
    refine gm_if_ne C 25 dX10_sell_19 (by decide) (fun c4 => ?_) (fun c4 => ?_)
    · have hf := gm_if _ c4 hf
      refine gm_aload_n C dX10_sell_25 rfl 0 rfl ?_
      refine gm_getr (j := 8) (u := 8) C (Nat.le_of_ble_eq_true rfl) rfl kc_10 (k := 1) rfl (by decide) rfl rfl wl_329 dX10_sell_26 ?_
      refine gm_iload_n C dX10_sell_29 rfl 1 rfl ?_
      obtain ⟨v5, ev5, hf⟩ := gm_bp1_s hf
      refine gm_callVi (As := [.int a0]) C (Tr_ticketsLeft_c l cf ad gm_tr_8 ev5) (Nat.le_of_ble_eq_true rfl) rfl kc_9 wy_Tr_ticketsLeft rfl wl_567 rfl ⟨(Nat.le_of_ble_eq_true rfl), (Nat.le_of_ble_eq_true rfl)⟩ rfl (Nat.le_of_ble_eq_true rfl) dX10_sell_30 ?_
      refine gm_if_ne C 39 dX10_sell_33 (by decide) (fun c6 => ?_) (fun c6 => ?_)
      · have hf := gm_if _ c6 hf
        refine gm_aload_n C dX10_sell_39 rfl 0 rfl ?_
        refine gm_getr (j := 22) (u := 22) C (Nat.le_of_ble_eq_true rfl) rfl kc_10 (k := 3) rfl (by decide) rfl rfl wl_331 dX10_sell_40 ?_
        refine gm_aload_n C dX10_sell_43 rfl 0 rfl ?_
        refine gm_getr (j := 8) (u := 8) C (Nat.le_of_ble_eq_true rfl) rfl kc_10 (k := 1) rfl (by decide) rfl rfl wl_329 dX10_sell_44 ?_
        obtain ⟨S7, eS7, hf⟩ := gm_bp1_s hf
        refine gm_callVv (As := [.ref (ad 8)]) C (Ps_remember_c l cf ad eS7) (Nat.le_of_ble_eq_true rfl) rfl kc_4 wy_Ps_remember rfl wl_673 rfl ⟨(Nat.le_of_ble_eq_true rfl), (Nat.le_of_ble_eq_true rfl)⟩ rfl (Nat.le_of_ble_eq_true rfl) dX10_sell_47 ?_
        refine gm_aload_n C dX10_sell_50 rfl 0 rfl ?_
        refine gm_getr (j := 8) (u := 8) C (Nat.le_of_ble_eq_true rfl) rfl kc_10 (k := 1) rfl (by decide) rfl rfl wl_329 dX10_sell_51 ?_
        refine gm_iload_n C dX10_sell_54 rfl 1 rfl ?_
        obtain ⟨v8, ev8, hf⟩ := gm_bp1_s hf
        refine gm_callVi (As := [.int a0]) C (Tr_nextTicket_c l cf ad gm_tr_8 ev8) (Nat.le_of_ble_eq_true rfl) rfl kc_9 wy_Tr_nextTicket rfl wl_571 rfl ⟨(Nat.le_of_ble_eq_true rfl), (Nat.le_of_ble_eq_true rfl)⟩ rfl (Nat.le_of_ble_eq_true rfl) dX10_sell_55 ?_
        refine gm_istore_n (lv' := [(3, .int v8), (0, .ref (ad 0)), (1, .int a0), (2, .int a1)]) C dX10_sell_58 rfl (by decide) rfl ?_
        refine gm_aload_n C dX10_sell_59 rfl 1 rfl ?_
        refine gm_iload_n C dX10_sell_60 rfl 2 rfl ?_
        refine gm_iload_n C dX10_sell_61 rfl 3 rfl ?_
        obtain ⟨v9, S10, eS10, hf⟩ := gm_bp2_s hf
        refine gm_callVi (As := [.int a0, .int a1]) C (Lt_sellOne_c l cf ad eS10) (Nat.le_of_ble_eq_true rfl) rfl kc_10 wy_Lt_sellOne rfl wl_679 rfl ⟨(Nat.le_of_ble_eq_true rfl), (Nat.le_of_ble_eq_true rfl)⟩ rfl (Nat.le_of_ble_eq_true rfl) dX10_sell_62 ?_
        refine gm_pop C dX10_sell_65 rfl ?_
        refine gm_iload_n C dX10_sell_66 rfl 0 rfl ?_
        exact gm_iret C hr rfl dX10_sell_67 hf
      · have hf := gm_it _ c6 hf
        refine gm_ldc (v := (-1000000003)) C wl_672 dX10_sell_36 ?_
        exact gm_iret C hr rfl dX10_sell_38 hf
    · have hf := gm_it _ c4 hf
      refine gm_ldc (v := (-1000000001)) C wl_617 dX10_sell_22 ?_
      exact gm_iret C hr rfl dX10_sell_24 hf
theorem dX10_line_0 : decode cX10_line 0 = .ok (.aload_n 0, 1) := by decide +kernel
theorem dX10_line_1 : decode cX10_line 1 = .ok (.getfield 19, 3) := by decide +kernel
theorem dX10_line_4 : decode cX10_line 4 = .ok (.iload_n 1, 1) := by decide +kernel
theorem dX10_line_5 : decode cX10_line 5 = .ok (.invokevirtual 164, 3) := by decide +kernel
theorem dX10_line_8 : decode cX10_line 8 = .ok (.ifCond .ne 6, 3) := by decide +kernel
theorem dX10_line_11 : decode cX10_line 11 = .ok (.ldc 143, 2) := by decide +kernel
theorem dX10_line_13 : decode cX10_line 13 = .ok (.ireturn, 1) := by decide +kernel
theorem dX10_line_14 : decode cX10_line 14 = .ok (.iload_n 2, 1) := by decide +kernel
theorem dX10_line_15 : decode cX10_line 15 = .ok (.iconst 1, 1) := by decide +kernel
theorem dX10_line_16 : decode cX10_line 16 = .ok (.if_icmp .lt 9, 3) := by decide +kernel
theorem dX10_line_19 : decode cX10_line 19 = .ok (.iload_n 2, 1) := by decide +kernel
theorem dX10_line_20 : decode cX10_line 20 = .ok (.bipush 60, 2) := by decide +kernel
theorem dX10_line_22 : decode cX10_line 22 = .ok (.if_icmp .le 6, 3) := by decide +kernel
theorem dX10_line_25 : decode cX10_line 25 = .ok (.ldc 62, 2) := by decide +kernel
theorem dX10_line_27 : decode cX10_line 27 = .ok (.ireturn, 1) := by decide +kernel
theorem dX10_line_28 : decode cX10_line 28 = .ok (.aload_n 0, 1) := by decide +kernel
theorem dX10_line_29 : decode cX10_line 29 = .ok (.getfield 19, 3) := by decide +kernel
theorem dX10_line_32 : decode cX10_line 32 = .ok (.getfield 109, 3) := by decide +kernel
theorem dX10_line_35 : decode cX10_line 35 = .ok (.ifCond .eq 15, 3) := by decide +kernel
theorem dX10_line_38 : decode cX10_line 38 = .ok (.aload_n 0, 1) := by decide +kernel
theorem dX10_line_39 : decode cX10_line 39 = .ok (.getfield 19, 3) := by decide +kernel
theorem dX10_line_42 : decode cX10_line 42 = .ok (.iload_n 1, 1) := by decide +kernel
theorem dX10_line_43 : decode cX10_line 43 = .ok (.invokevirtual 170, 3) := by decide +kernel
theorem dX10_line_46 : decode cX10_line 46 = .ok (.iload_n 2, 1) := by decide +kernel
theorem dX10_line_47 : decode cX10_line 47 = .ok (.if_icmp .ge 6, 3) := by decide +kernel
theorem dX10_line_50 : decode cX10_line 50 = .ok (.ldc 201, 2) := by decide +kernel
theorem dX10_line_52 : decode cX10_line 52 = .ok (.ireturn, 1) := by decide +kernel
theorem dX10_line_53 : decode cX10_line 53 = .ok (.aload_n 0, 1) := by decide +kernel
theorem dX10_line_54 : decode cX10_line 54 = .ok (.getfield 33, 3) := by decide +kernel
theorem dX10_line_57 : decode cX10_line 57 = .ok (.aload_n 0, 1) := by decide +kernel
theorem dX10_line_58 : decode cX10_line 58 = .ok (.getfield 19, 3) := by decide +kernel
theorem dX10_line_61 : decode cX10_line 61 = .ok (.invokevirtual 202, 3) := by decide +kernel
theorem dX10_line_64 : decode cX10_line 64 = .ok (.iconst 0, 1) := by decide +kernel
theorem dX10_line_65 : decode cX10_line 65 = .ok (.istore_n 3, 1) := by decide +kernel
theorem dX10_line_66 : decode cX10_line 66 = .ok (.iconst 0, 1) := by decide +kernel
theorem dX10_line_67 : decode cX10_line 67 = .ok (.istore 4, 2) := by decide +kernel
theorem dX10_line_69 : decode cX10_line 69 = .ok (.iload 4, 2) := by decide +kernel
theorem dX10_line_71 : decode cX10_line 71 = .ok (.iload_n 2, 1) := by decide +kernel
theorem dX10_line_72 : decode cX10_line 72 = .ok (.if_icmp .ge 30, 3) := by decide +kernel
theorem dX10_line_75 : decode cX10_line 75 = .ok (.aload_n 0, 1) := by decide +kernel
theorem dX10_line_76 : decode cX10_line 76 = .ok (.iload_n 1, 1) := by decide +kernel
theorem dX10_line_77 : decode cX10_line 77 = .ok (.iload 4, 2) := by decide +kernel
theorem dX10_line_79 : decode cX10_line 79 = .ok (.aload_n 0, 1) := by decide +kernel
theorem dX10_line_80 : decode cX10_line 80 = .ok (.getfield 19, 3) := by decide +kernel
theorem dX10_line_83 : decode cX10_line 83 = .ok (.getfield 109, 3) := by decide +kernel
theorem dX10_line_86 : decode cX10_line 86 = .ok (.irem, 1) := by decide +kernel
theorem dX10_line_87 : decode cX10_line 87 = .ok (.invokevirtual 205, 3) := by decide +kernel
theorem dX10_line_90 : decode cX10_line 90 = .ok (.ifCond .eq 6, 3) := by decide +kernel
theorem dX10_line_93 : decode cX10_line 93 = .ok (.iinc 3 1, 3) := by decide +kernel
theorem dX10_line_96 : decode cX10_line 96 = .ok (.iinc 4 1, 3) := by decide +kernel
theorem dX10_line_99 : decode cX10_line 99 = .ok (.goto (-30), 3) := by decide +kernel
theorem dX10_line_102 : decode cX10_line 102 = .ok (.iload_n 3, 1) := by decide +kernel
theorem dX10_line_103 : decode cX10_line 103 = .ok (.ireturn, 1) := by decide +kernel
def Lt_line_L69_b (fl : Nat) (a0 : Int32) (a1 : Int32) (rec : Int32 → Int32 → gm_M → Option (Int32 × gm_M)) (y9 : Int32) (y10 : Int32) (S11 : gm_M) : Option (Int32 × gm_M) :=
  if a1 ≤ y10 then (
    some (y9, S11)
  ) else (
    if S11.1 8 8 = 0 then none else
    gm_bp2 (Lt_sellOne fl a0 (gm_rm y10 (S11.1 8 8)) S11) fun v16 S17 =>
    gm_bp1 (show Option (Int32) from
      if v16 = 0 then (
        some (y9)
      ) else (
        gm_lt (α := Int32) (y9 + 1) fun x21 =>
        some (x21)
      )
    ) fun x18 =>
    gm_lt (α := Int32) (y10 + 1) fun x19 =>
    rec x18 x19 S17
  )
def Lt_line_L69 (fl : Nat) (a0 : Int32) (a1 : Int32) : Nat → Int32 → Int32 → gm_M → Option (Int32 × gm_M)
  | 0 => fun _ _ _ => none
  | n + 1 => Lt_line_L69_b fl a0 a1 (Lt_line_L69 fl a0 a1 n)
def Lt_line (fl : Nat) (a0 : Int32) (a1 : Int32) (S : gm_M) : Option (Int32 × gm_M) :=
  gm_bp1 (Tr_hasRoll 8 a0 S) fun v1 =>
  if v1 = 0 then (
    some ((-1000000001), S)
  ) else (
    if a1 < 1 then (
      some ((-1000000002), S)
    ) else (
      if a1 ≤ 60 then (
        if S.1 8 8 = 0 then (
          some ((-1000000003), S)
        ) else (
          gm_bp1 (Tr_ticketsLeft 8 a0 S) fun v6 =>
          if a1 ≤ v6 then (
            gm_bp1 (Ps_remember S) fun S8 =>
            gm_bp2 (Lt_line_L69 fl a0 a1 fl 0 0 S8) fun z12 S13 =>
            some (z12, S13)
          ) else (
            some ((-1000000003), S)
          )
        )
      ) else (
        some ((-1000000002), S)
      )
    )
  )
set_option maxHeartbeats 4000000 in
set_option maxRecDepth 100000 in
theorem Lt_line_c (l : Launch) (cf : gm_C) (ad : Nat → Nat) {fl : Nat}   {a0 : Int32} {a1 : Int32} {S : gm_M} {r : Int32} {S'  : gm_M} (hf : Lt_line fl a0 a1 S = some (r, S')) : gm_Met l yX10_line cX10_line 5 (some .int) 5 106 cf ad gm_sC 106 [.ref (ad 0), .int a0, .int a1] S (some (.int r)) S' := by
  refine gm_met (by decide +kernel) (Nat.le_of_ble_eq_true rfl) ?_
  intro p e s m args below meth c C hr
  have C : gm_F p s m args meth c cf ad 106 cX10_line 5 RX10 := C
  refine gm_lve (lv' := [(0, .ref (ad 0)), (1, .int a0), (2, .int a1)]) rfl ?_
  unfold Lt_line at hf
  refine gm_aload_n C dX10_line_0 rfl 0 rfl ?_
  refine gm_getr (j := 8) (u := 8) C (Nat.le_of_ble_eq_true rfl) rfl kc_10 (k := 1) rfl (by decide) rfl rfl wl_329 dX10_line_1 ?_
  refine gm_iload_n C dX10_line_4 rfl 1 rfl ?_
  obtain ⟨v1, ev1, hf⟩ := gm_bp1_s hf
  refine gm_callVi (As := [.int a0]) C (Tr_hasRoll_c l cf ad gm_tr_8 ev1) (Nat.le_of_ble_eq_true rfl) rfl kc_9 wy_Tr_hasRoll rfl wl_630 rfl ⟨(Nat.le_of_ble_eq_true rfl), (Nat.le_of_ble_eq_true rfl)⟩ rfl (Nat.le_of_ble_eq_true rfl) dX10_line_5 ?_
  refine gm_if_ne C 14 dX10_line_8 (by decide) (fun c2 => ?_) (fun c2 => ?_)
  · have hf := gm_if _ c2 hf
    refine gm_iload_n C dX10_line_14 rfl 2 rfl ?_
    refine gm_iconst (v := 1) C dX10_line_15 (by decide) ?_
    refine gm_icmp_lt C 25 dX10_line_16 (by decide) (fun c3 => ?_) (fun c3 => ?_)
    · have hf := gm_it _ c3 hf
      refine gm_ldc (v := (-1000000002)) C wl_360 dX10_line_25 ?_
      exact gm_iret C hr rfl dX10_line_27 hf
    · have hf := gm_if _ c3 hf
      refine gm_iload_n C dX10_line_19 rfl 2 rfl ?_
      refine gm_bipush (v := 60) C dX10_line_20 (by decide) ?_
      refine gm_icmp_le C 28 dX10_line_22 (by decide) (fun c4 => ?_) (fun c4 => ?_)
      · have hf := gm_it _ c4 hf
        refine gm_aload_n C dX10_line_28 rfl 0 rfl ?_
        refine gm_getr (j := 8) (u := 8) C (Nat.le_of_ble_eq_true rfl) rfl kc_10 (k := 1) rfl (by decide) rfl rfl wl_329 dX10_line_29 ?_
        refine gm_geti C (Nat.le_of_ble_eq_true rfl) rfl kc_9 (k := 8) rfl (by decide) rfl wl_127 dX10_line_32 ?_
        refine gm_if_eq C 50 dX10_line_35 (by decide) (fun c5 => ?_) (fun c5 => ?_)
        · have hf := gm_it _ c5 hf
          refine gm_ldc (v := (-1000000003)) C wl_672 dX10_line_50 ?_
          exact gm_iret C hr rfl dX10_line_52 hf
        · have hf := gm_if _ c5 hf
          refine gm_aload_n C dX10_line_38 rfl 0 rfl ?_
          refine gm_getr (j := 8) (u := 8) C (Nat.le_of_ble_eq_true rfl) rfl kc_10 (k := 1) rfl (by decide) rfl rfl wl_329 dX10_line_39 ?_
          refine gm_iload_n C dX10_line_42 rfl 1 rfl ?_
          obtain ⟨v6, ev6, hf⟩ := gm_bp1_s hf
          refine gm_callVi (As := [.int a0]) C (Tr_ticketsLeft_c l cf ad gm_tr_8 ev6) (Nat.le_of_ble_eq_true rfl) rfl kc_9 wy_Tr_ticketsLeft rfl wl_567 rfl ⟨(Nat.le_of_ble_eq_true rfl), (Nat.le_of_ble_eq_true rfl)⟩ rfl (Nat.le_of_ble_eq_true rfl) dX10_line_43 ?_
          refine gm_iload_n C dX10_line_46 rfl 2 rfl ?_
          refine gm_icmp_ge C 53 dX10_line_47 (by decide) (fun c7 => ?_) (fun c7 => ?_)
          · have hf := gm_it _ c7 hf
            refine gm_aload_n C dX10_line_53 rfl 0 rfl ?_
            refine gm_getr (j := 22) (u := 22) C (Nat.le_of_ble_eq_true rfl) rfl kc_10 (k := 3) rfl (by decide) rfl rfl wl_331 dX10_line_54 ?_
            refine gm_aload_n C dX10_line_57 rfl 0 rfl ?_
            refine gm_getr (j := 8) (u := 8) C (Nat.le_of_ble_eq_true rfl) rfl kc_10 (k := 1) rfl (by decide) rfl rfl wl_329 dX10_line_58 ?_
            obtain ⟨S8, eS8, hf⟩ := gm_bp1_s hf
            refine gm_callVv (As := [.ref (ad 8)]) C (Ps_remember_c l cf ad eS8) (Nat.le_of_ble_eq_true rfl) rfl kc_4 wy_Ps_remember rfl wl_673 rfl ⟨(Nat.le_of_ble_eq_true rfl), (Nat.le_of_ble_eq_true rfl)⟩ rfl (Nat.le_of_ble_eq_true rfl) dX10_line_61 ?_
            refine gm_iconst (v := 0) C dX10_line_64 (by decide) ?_
            refine gm_istore_n (lv' := [(3, .int 0), (0, .ref (ad 0)), (1, .int a0), (2, .int a1)]) C dX10_line_65 rfl (by decide) rfl ?_
            refine gm_iconst (v := 0) C dX10_line_66 (by decide) ?_
            refine gm_istore (lv' := [(4, .int 0), (3, .int 0), (0, .ref (ad 0)), (1, .int a0), (2, .int a1)]) C dX10_line_67 (by decide) rfl ?_
            have L69 : ∀ (n : Nat) (y9 : Int32) (y10 : Int32) (S11 : gm_M) (z12 : Int32) (S13 : gm_M), Lt_line_L69 fl a0 a1 n y9 y10 S11 = some (z12, S13) → gm_G p l e { frames := 5, cells := 0, slots := 0, locals := 106 } s m args below meth c (MQ below (gm_Q cf ad gm_sC 106 (some (.int r)) S') args s 0 0 (gm_A ad 106)) cf ad gm_sC 106 5 S13 102 [(3, .int z12)] [] → gm_G p l e { frames := 5, cells := 0, slots := 0, locals := 106 } s m args below meth c (MQ below (gm_Q cf ad gm_sC 106 (some (.int r)) S') args s 0 0 (gm_A ad 106)) cf ad gm_sC 106 5 S11 69 [(0, .ref (ad 0)), (1, .int a0), (2, .int a1), (3, .int y9), (4, .int y10)] [] := by
              intro n
              induction n with
              | zero => intro y9 y10 S11 z12 S13 hf K; cases (show (none : Option _) = some _ from hf)
              | succ n ih =>
                intro y9 y10 S11 z12 S13 hf K
                have hf : Lt_line_L69_b fl a0 a1 (Lt_line_L69 fl a0 a1 n) y9 y10 S11 = some (z12, S13) := hf
                unfold Lt_line_L69_b at hf
                refine gm_iload C dX10_line_69 4 rfl ?_
                refine gm_iload_n C dX10_line_71 rfl 2 rfl ?_
                refine gm_icmp_ge C 102 dX10_line_72 (by decide) (fun c14 => ?_) (fun c14 => ?_)
                · have hf := gm_it _ c14 hf
                  cases hf
                  exact gm_lvp [3] rfl K
                · have hf := gm_if _ c14 hf
                  refine gm_aload_n C dX10_line_75 rfl 0 rfl ?_
                  refine gm_iload_n C dX10_line_76 rfl 1 rfl ?_
                  refine gm_iload C dX10_line_77 4 rfl ?_
                  refine gm_aload_n C dX10_line_79 rfl 0 rfl ?_
                  refine gm_getr (j := 8) (u := 8) C (Nat.le_of_ble_eq_true rfl) rfl kc_10 (k := 1) rfl (by decide) rfl rfl wl_329 dX10_line_80 ?_
                  refine gm_geti C (Nat.le_of_ble_eq_true rfl) rfl kc_9 (k := 8) rfl (by decide) rfl wl_127 dX10_line_83 ?_
                  obtain ⟨h15, hf⟩ := gm_iz _ hf
                  refine gm_irem C dX10_line_86 h15 ?_
                  obtain ⟨v16, S17, eS17, hf⟩ := gm_bp2_s hf
                  refine gm_callVi (As := [.int a0, .int (gm_rm y10 (S11.1 8 8))]) C (Lt_sellOne_c l cf ad eS17) (Nat.le_of_ble_eq_true rfl) rfl kc_10 wy_Lt_sellOne rfl wl_679 rfl ⟨(Nat.le_of_ble_eq_true rfl), (Nat.le_of_ble_eq_true rfl)⟩ rfl (Nat.le_of_ble_eq_true rfl) dX10_line_87 ?_
                  obtain ⟨x18, hx, hf⟩ := gm_bp1_s hf
                  have key : gm_G p l e { frames := 5, cells := 0, slots := 0, locals := 106 } s m args below meth c (MQ below (gm_Q cf ad gm_sC 106 (some (.int r)) S') args s 0 0 (gm_A ad 106)) cf ad gm_sC 106 5 S17 96 [(0, .ref (ad 0)), (1, .int a0), (2, .int a1), (3, .int x18), (4, .int y10)] [] := by
                    obtain ⟨x19, ex19, hf⟩ := gm_lt_s hf
                    refine gm_iinc (v := x19) (lv' := [(4, .int x19), (0, .ref (ad 0)), (1, .int a0), (2, .int a1), (3, .int x18)]) (j := 4) C dX10_line_96 rfl (by rw [ex19]; rfl) (by decide) rfl ?_
                    refine gm_goto C 69 dX10_line_99 (by decide) ?_
                    exact gm_lvp [1, 2, 3, 4, 0] rfl (ih _ _ _ _ _ hf K)
                  have hf := hx
                  refine gm_if_eq C 96 dX10_line_90 (by decide) (fun c20 => ?_) (fun c20 => ?_)
                  · have hf := gm_it _ c20 hf
                    cases hf
                    exact gm_lvp [0, 1, 2, 3, 4] rfl key
                  · have hf := gm_if _ c20 hf
                    obtain ⟨x21, ex21, hf⟩ := gm_lt_s hf
                    refine gm_iinc (v := x21) (lv' := [(3, .int x21), (0, .ref (ad 0)), (1, .int a0), (2, .int a1), (4, .int y10)]) (j := 3) C dX10_line_93 rfl (by rw [ex21]; rfl) (by decide) rfl ?_
                    cases hf
                    exact gm_lvp [1, 2, 3, 0, 4] rfl key
            obtain ⟨z12, S13, hx, hf⟩ := gm_bp2_s hf
            refine gm_lvp [2, 3, 4, 1, 0] rfl (L69 fl _ _ _ _ _ hx ?_)
            refine gm_iload_n C dX10_line_102 rfl 0 rfl ?_
            exact gm_iret C hr rfl dX10_line_103 hf
          · have hf := gm_if _ c7 hf
            refine gm_ldc (v := (-1000000003)) C wl_672 dX10_line_50 ?_
            exact gm_iret C hr rfl dX10_line_52 hf
      · have hf := gm_if _ c4 hf
        refine gm_ldc (v := (-1000000002)) C wl_360 dX10_line_25 ?_
        exact gm_iret C hr rfl dX10_line_27 hf
  · have hf := gm_it _ c2 hf
    refine gm_ldc (v := (-1000000001)) C wl_617 dX10_line_11 ?_
    exact gm_iret C hr rfl dX10_line_13 hf
theorem dX9_giveLucky_0 : decode cX9_giveLucky 0 = .ok (.aload_n 0, 1) := by decide +kernel
theorem dX9_giveLucky_1 : decode cX9_giveLucky 1 = .ok (.getfield 18, 3) := by decide +kernel
theorem dX9_giveLucky_4 : decode cX9_giveLucky 4 = .ok (.iload_n 1, 1) := by decide +kernel
theorem dX9_giveLucky_5 : decode cX9_giveLucky 5 = .ok (.iconst 5, 1) := by decide +kernel
theorem dX9_giveLucky_6 : decode cX9_giveLucky 6 = .ok (.imul, 1) := by decide +kernel
theorem dX9_giveLucky_7 : decode cX9_giveLucky 7 = .ok (.iconst 1, 1) := by decide +kernel
theorem dX9_giveLucky_8 : decode cX9_giveLucky 8 = .ok (.iadd, 1) := by decide +kernel
theorem dX9_giveLucky_9 : decode cX9_giveLucky 9 = .ok (.dup2, 1) := by decide +kernel
theorem dX9_giveLucky_10 : decode cX9_giveLucky 10 = .ok (.iaload, 1) := by decide +kernel
theorem dX9_giveLucky_11 : decode cX9_giveLucky 11 = .ok (.iconst 1, 1) := by decide +kernel
theorem dX9_giveLucky_12 : decode cX9_giveLucky 12 = .ok (.isub, 1) := by decide +kernel
theorem dX9_giveLucky_13 : decode cX9_giveLucky 13 = .ok (.iastore, 1) := by decide +kernel
theorem dX9_giveLucky_14 : decode cX9_giveLucky 14 = .ok (.aload_n 0, 1) := by decide +kernel
theorem dX9_giveLucky_15 : decode cX9_giveLucky 15 = .ok (.getfield 18, 3) := by decide +kernel
theorem dX9_giveLucky_18 : decode cX9_giveLucky 18 = .ok (.iload_n 1, 1) := by decide +kernel
theorem dX9_giveLucky_19 : decode cX9_giveLucky 19 = .ok (.iconst 5, 1) := by decide +kernel
theorem dX9_giveLucky_20 : decode cX9_giveLucky 20 = .ok (.imul, 1) := by decide +kernel
theorem dX9_giveLucky_21 : decode cX9_giveLucky 21 = .ok (.iconst 2, 1) := by decide +kernel
theorem dX9_giveLucky_22 : decode cX9_giveLucky 22 = .ok (.iadd, 1) := by decide +kernel
theorem dX9_giveLucky_23 : decode cX9_giveLucky 23 = .ok (.dup2, 1) := by decide +kernel
theorem dX9_giveLucky_24 : decode cX9_giveLucky 24 = .ok (.iaload, 1) := by decide +kernel
theorem dX9_giveLucky_25 : decode cX9_giveLucky 25 = .ok (.iconst 1, 1) := by decide +kernel
theorem dX9_giveLucky_26 : decode cX9_giveLucky 26 = .ok (.isub, 1) := by decide +kernel
theorem dX9_giveLucky_27 : decode cX9_giveLucky 27 = .ok (.iastore, 1) := by decide +kernel
theorem dX9_giveLucky_28 : decode cX9_giveLucky 28 = .ok (.aload_n 0, 1) := by decide +kernel
theorem dX9_giveLucky_29 : decode cX9_giveLucky 29 = .ok (.iload_n 2, 1) := by decide +kernel
theorem dX9_giveLucky_30 : decode cX9_giveLucky 30 = .ok (.iconst 1, 1) := by decide +kernel
theorem dX9_giveLucky_31 : decode cX9_giveLucky 31 = .ok (.invokevirtual 72, 3) := by decide +kernel
theorem dX9_giveLucky_34 : decode cX9_giveLucky 34 = .ok (.return_, 1) := by decide +kernel
def Tr_giveLucky (t : Nat) (a0 : Int32) (a1 : Int32) (S : gm_M) : Option gm_M :=
  gm_ck ((a0 * 5) + 1) 25 <|
  gm_ck ((a0 * 5) + 1) 25 <|
  gm_lt (α := gm_M) (gm_ui S (t + 3) (((a0 * 5) + 1).toNatClampNeg) ((S.1 (t + 3) ((a0 * 5) + 1).toNatClampNeg) - 1)) fun S3 =>
  gm_ck ((a0 * 5) + 2) 25 <|
  gm_ck ((a0 * 5) + 2) 25 <|
  gm_lt (α := gm_M) (gm_ui S3 (t + 3) (((a0 * 5) + 2).toNatClampNeg) ((S3.1 (t + 3) ((a0 * 5) + 2).toNatClampNeg) - 1)) fun S6 =>
  gm_bp1 (Tr_keepTicket t a1 1 S6) fun S7 =>
  some S7
set_option maxHeartbeats 4000000 in
set_option maxRecDepth 100000 in
theorem Tr_giveLucky_c (l : Launch) (cf : gm_C) (ad : Nat → Nat)  {t : Nat} (ht : gm_isTr t) {a0 : Int32} {a1 : Int32} {S : gm_M}  {S'  : gm_M} (hf : Tr_giveLucky t a0 a1 S = some S') : gm_Met l yX9_giveLucky cX9_giveLucky 3 none 3 60 cf ad gm_sC 106 [.ref (ad t), .int a0, .int a1] S none S' := by
  refine gm_met (by decide +kernel) (Nat.le_of_ble_eq_true rfl) ?_
  intro p e s m args below meth c C hr
  have C : gm_F p s m args meth c cf ad 106 cX9_giveLucky 3 RX9 := C
  refine gm_lve (lv' := [(0, .ref (ad t)), (1, .int a0), (2, .int a1)]) rfl ?_
  unfold Tr_giveLucky at hf
  refine gm_aload_n C dX9_giveLucky_0 rfl 0 rfl ?_
  refine gm_getr (j := 3) (u := (t + 3)) C (gm_tr_l0 ht) (gm_tr_k0 ht) kc_9 (k := 2) rfl (by decide) rfl rfl wl_108 dX9_giveLucky_1 ?_
  refine gm_iload_n C dX9_giveLucky_4 rfl 1 rfl ?_
  refine gm_iconst (v := 5) C dX9_giveLucky_5 (by decide) ?_
  refine gm_imul C dX9_giveLucky_6 ?_
  refine gm_iconst (v := 1) C dX9_giveLucky_7 (by decide) ?_
  refine gm_iadd C dX9_giveLucky_8 ?_
  refine gm_dup2_11 C dX9_giveLucky_9 rfl rfl ?_
  obtain ⟨h1, hf⟩ := gm_ck_s hf
  refine gm_iald C (gm_tr_l3 ht) (gm_tr_k3 ht) (gm_tr_n3 ht) h1 dX9_giveLucky_10 ?_
  refine gm_iconst (v := 1) C dX9_giveLucky_11 (by decide) ?_
  refine gm_isub C dX9_giveLucky_12 ?_
  obtain ⟨h2, hf⟩ := gm_ck_s hf
  refine gm_iast C (gm_tr_l3 ht) (gm_tr_k3 ht) (gm_tr_n3 ht) h2 dX9_giveLucky_13 ?_
  obtain ⟨S3, eS3, hf⟩ := gm_lt_s hf
  refine gm_topm eS3 ?_
  refine gm_aload_n C dX9_giveLucky_14 rfl 0 rfl ?_
  refine gm_getr (j := 3) (u := (t + 3)) C (gm_tr_l0 ht) (gm_tr_k0 ht) kc_9 (k := 2) rfl (by decide) rfl rfl wl_108 dX9_giveLucky_15 ?_
  refine gm_iload_n C dX9_giveLucky_18 rfl 1 rfl ?_
  refine gm_iconst (v := 5) C dX9_giveLucky_19 (by decide) ?_
  refine gm_imul C dX9_giveLucky_20 ?_
  refine gm_iconst (v := 2) C dX9_giveLucky_21 (by decide) ?_
  refine gm_iadd C dX9_giveLucky_22 ?_
  refine gm_dup2_11 C dX9_giveLucky_23 rfl rfl ?_
  obtain ⟨h4, hf⟩ := gm_ck_s hf
  refine gm_iald C (gm_tr_l3 ht) (gm_tr_k3 ht) (gm_tr_n3 ht) h4 dX9_giveLucky_24 ?_
  refine gm_iconst (v := 1) C dX9_giveLucky_25 (by decide) ?_
  refine gm_isub C dX9_giveLucky_26 ?_
  obtain ⟨h5, hf⟩ := gm_ck_s hf
  refine gm_iast C (gm_tr_l3 ht) (gm_tr_k3 ht) (gm_tr_n3 ht) h5 dX9_giveLucky_27 ?_
  obtain ⟨S6, eS6, hf⟩ := gm_lt_s hf
  refine gm_topm eS6 ?_
  refine gm_aload_n C dX9_giveLucky_28 rfl 0 rfl ?_
  refine gm_iload_n C dX9_giveLucky_29 rfl 2 rfl ?_
  refine gm_iconst (v := 1) C dX9_giveLucky_30 (by decide) ?_
  obtain ⟨S7, eS7, hf⟩ := gm_bp1_s hf
  refine gm_callVv (As := [.int a1, .int 1]) C (Tr_keepTicket_c l cf ad ht eS7) (gm_tr_l0 ht) (gm_tr_k0 ht) kc_9 wy_Tr_keepTicket rfl wl_699 rfl ⟨(Nat.le_of_ble_eq_true rfl), (Nat.le_of_ble_eq_true rfl)⟩ rfl (Nat.le_of_ble_eq_true rfl) dX9_giveLucky_31 ?_
  exact gm_vret C hr dX9_giveLucky_34 hf
theorem dX10_give_0 : decode cX10_give 0 = .ok (.aload_n 0, 1) := by decide +kernel
theorem dX10_give_1 : decode cX10_give 1 = .ok (.getfield 19, 3) := by decide +kernel
theorem dX10_give_4 : decode cX10_give 4 = .ok (.iload_n 1, 1) := by decide +kernel
theorem dX10_give_5 : decode cX10_give 5 = .ok (.invokevirtual 185, 3) := by decide +kernel
theorem dX10_give_8 : decode cX10_give 8 = .ok (.ifCond .eq 19, 3) := by decide +kernel
theorem dX10_give_11 : decode cX10_give 11 = .ok (.aload_n 0, 1) := by decide +kernel
theorem dX10_give_12 : decode cX10_give 12 = .ok (.getfield 19, 3) := by decide +kernel
theorem dX10_give_15 : decode cX10_give 15 = .ok (.iload_n 2, 1) := by decide +kernel
theorem dX10_give_16 : decode cX10_give 16 = .ok (.invokevirtual 185, 3) := by decide +kernel
theorem dX10_give_19 : decode cX10_give 19 = .ok (.ifCond .eq 8, 3) := by decide +kernel
theorem dX10_give_22 : decode cX10_give 22 = .ok (.iload_n 1, 1) := by decide +kernel
theorem dX10_give_23 : decode cX10_give 23 = .ok (.iload_n 2, 1) := by decide +kernel
theorem dX10_give_24 : decode cX10_give 24 = .ok (.if_icmp .ne 6, 3) := by decide +kernel
theorem dX10_give_27 : decode cX10_give 27 = .ok (.ldc 143, 2) := by decide +kernel
theorem dX10_give_29 : decode cX10_give 29 = .ok (.ireturn, 1) := by decide +kernel
theorem dX10_give_30 : decode cX10_give 30 = .ok (.aload_n 0, 1) := by decide +kernel
theorem dX10_give_31 : decode cX10_give 31 = .ok (.getfield 19, 3) := by decide +kernel
theorem dX10_give_34 : decode cX10_give 34 = .ok (.iload_n 1, 1) := by decide +kernel
theorem dX10_give_35 : decode cX10_give 35 = .ok (.iconst 2, 1) := by decide +kernel
theorem dX10_give_36 : decode cX10_give 36 = .ok (.invokevirtual 188, 3) := by decide +kernel
theorem dX10_give_39 : decode cX10_give 39 = .ok (.ifCond .ne 6, 3) := by decide +kernel
theorem dX10_give_42 : decode cX10_give 42 = .ok (.ldc 201, 2) := by decide +kernel
theorem dX10_give_44 : decode cX10_give 44 = .ok (.ireturn, 1) := by decide +kernel
theorem dX10_give_45 : decode cX10_give 45 = .ok (.aload_n 0, 1) := by decide +kernel
theorem dX10_give_46 : decode cX10_give 46 = .ok (.getfield 33, 3) := by decide +kernel
theorem dX10_give_49 : decode cX10_give 49 = .ok (.aload_n 0, 1) := by decide +kernel
theorem dX10_give_50 : decode cX10_give 50 = .ok (.getfield 19, 3) := by decide +kernel
theorem dX10_give_53 : decode cX10_give 53 = .ok (.invokevirtual 202, 3) := by decide +kernel
theorem dX10_give_56 : decode cX10_give 56 = .ok (.aload_n 0, 1) := by decide +kernel
theorem dX10_give_57 : decode cX10_give 57 = .ok (.getfield 19, 3) := by decide +kernel
theorem dX10_give_60 : decode cX10_give 60 = .ok (.iload_n 1, 1) := by decide +kernel
theorem dX10_give_61 : decode cX10_give 61 = .ok (.iload_n 2, 1) := by decide +kernel
theorem dX10_give_62 : decode cX10_give 62 = .ok (.invokevirtual 209, 3) := by decide +kernel
theorem dX10_give_65 : decode cX10_give 65 = .ok (.aload_n 0, 1) := by decide +kernel
theorem dX10_give_66 : decode cX10_give 66 = .ok (.getfield 19, 3) := by decide +kernel
theorem dX10_give_69 : decode cX10_give 69 = .ok (.iload_n 2, 1) := by decide +kernel
theorem dX10_give_70 : decode cX10_give 70 = .ok (.iconst 2, 1) := by decide +kernel
theorem dX10_give_71 : decode cX10_give 71 = .ok (.invokevirtual 188, 3) := by decide +kernel
theorem dX10_give_74 : decode cX10_give 74 = .ok (.ireturn, 1) := by decide +kernel
def Lt_give (a0 : Int32) (a1 : Int32) (S : gm_M) : Option (Int32 × gm_M) :=
  gm_bp1 (Tr_hasRider 8 a0 S) fun v1 =>
  if v1 = 0 then (
    some ((-1000000001), S)
  ) else (
    gm_bp1 (Tr_hasRider 8 a1 S) fun v3 =>
    if v3 = 0 then (
      some ((-1000000001), S)
    ) else (
      if a0 = a1 then (
        some ((-1000000001), S)
      ) else (
        gm_bp1 (Tr_riderCell 8 a0 2 S) fun v6 =>
        if v6 = 0 then (
          some ((-1000000003), S)
        ) else (
          gm_bp1 (Ps_remember S) fun S8 =>
          gm_bp1 (Tr_giveLucky 8 a0 a1 S8) fun S9 =>
          gm_bp1 (Tr_riderCell 8 a1 2 S9) fun v10 =>
          some (v10, S9)
        )
      )
    )
  )
set_option maxHeartbeats 4000000 in
set_option maxRecDepth 100000 in
theorem Lt_give_c (l : Launch) (cf : gm_C) (ad : Nat → Nat)    {a0 : Int32} {a1 : Int32} {S : gm_M} {r : Int32} {S'  : gm_M} (hf : Lt_give a0 a1 S = some (r, S')) : gm_Met l yX10_give cX10_give 3 (some .int) 4 82 cf ad gm_sC 106 [.ref (ad 0), .int a0, .int a1] S (some (.int r)) S' := by
  refine gm_met (by decide +kernel) (Nat.le_of_ble_eq_true rfl) ?_
  intro p e s m args below meth c C hr
  have C : gm_F p s m args meth c cf ad 106 cX10_give 3 RX10 := C
  refine gm_lve (lv' := [(0, .ref (ad 0)), (1, .int a0), (2, .int a1)]) rfl ?_
  unfold Lt_give at hf
  refine gm_aload_n C dX10_give_0 rfl 0 rfl ?_
  refine gm_getr (j := 8) (u := 8) C (Nat.le_of_ble_eq_true rfl) rfl kc_10 (k := 1) rfl (by decide) rfl rfl wl_329 dX10_give_1 ?_
  refine gm_iload_n C dX10_give_4 rfl 1 rfl ?_
  obtain ⟨v1, ev1, hf⟩ := gm_bp1_s hf
  refine gm_callVi (As := [.int a0]) C (Tr_hasRider_c l cf ad gm_tr_8 ev1) (Nat.le_of_ble_eq_true rfl) rfl kc_9 wy_Tr_hasRider rfl wl_651 rfl ⟨(Nat.le_of_ble_eq_true rfl), (Nat.le_of_ble_eq_true rfl)⟩ rfl (Nat.le_of_ble_eq_true rfl) dX10_give_5 ?_
  refine gm_if_eq C 27 dX10_give_8 (by decide) (fun c2 => ?_) (fun c2 => ?_)
  · have hf := gm_it _ c2 hf
    refine gm_ldc (v := (-1000000001)) C wl_617 dX10_give_27 ?_
    exact gm_iret C hr rfl dX10_give_29 hf
  · have hf := gm_if _ c2 hf
    refine gm_aload_n C dX10_give_11 rfl 0 rfl ?_
    refine gm_getr (j := 8) (u := 8) C (Nat.le_of_ble_eq_true rfl) rfl kc_10 (k := 1) rfl (by decide) rfl rfl wl_329 dX10_give_12 ?_
    refine gm_iload_n C dX10_give_15 rfl 2 rfl ?_
    obtain ⟨v3, ev3, hf⟩ := gm_bp1_s hf
    refine gm_callVi (As := [.int a1]) C (Tr_hasRider_c l cf ad gm_tr_8 ev3) (Nat.le_of_ble_eq_true rfl) rfl kc_9 wy_Tr_hasRider rfl wl_651 rfl ⟨(Nat.le_of_ble_eq_true rfl), (Nat.le_of_ble_eq_true rfl)⟩ rfl (Nat.le_of_ble_eq_true rfl) dX10_give_16 ?_
    refine gm_if_eq C 27 dX10_give_19 (by decide) (fun c4 => ?_) (fun c4 => ?_)
    · have hf := gm_it _ c4 hf
      refine gm_ldc (v := (-1000000001)) C wl_617 dX10_give_27 ?_
      exact gm_iret C hr rfl dX10_give_29 hf
    · have hf := gm_if _ c4 hf
      refine gm_iload_n C dX10_give_22 rfl 1 rfl ?_
      refine gm_iload_n C dX10_give_23 rfl 2 rfl ?_
      refine gm_icmp_ne C 30 dX10_give_24 (by decide) (fun c5 => ?_) (fun c5 => ?_)
      · have hf := gm_if _ c5 hf
        refine gm_aload_n C dX10_give_30 rfl 0 rfl ?_
        refine gm_getr (j := 8) (u := 8) C (Nat.le_of_ble_eq_true rfl) rfl kc_10 (k := 1) rfl (by decide) rfl rfl wl_329 dX10_give_31 ?_
        refine gm_iload_n C dX10_give_34 rfl 1 rfl ?_
        refine gm_iconst (v := 2) C dX10_give_35 (by decide) ?_
        obtain ⟨v6, ev6, hf⟩ := gm_bp1_s hf
        refine gm_callVi (As := [.int a0, .int 2]) C (Tr_riderCell_c l cf ad gm_tr_8 ev6) (Nat.le_of_ble_eq_true rfl) rfl kc_9 wy_Tr_riderCell rfl wl_655 rfl ⟨(Nat.le_of_ble_eq_true rfl), (Nat.le_of_ble_eq_true rfl)⟩ rfl (Nat.le_of_ble_eq_true rfl) dX10_give_36 ?_
        refine gm_if_ne C 45 dX10_give_39 (by decide) (fun c7 => ?_) (fun c7 => ?_)
        · have hf := gm_if _ c7 hf
          refine gm_aload_n C dX10_give_45 rfl 0 rfl ?_
          refine gm_getr (j := 22) (u := 22) C (Nat.le_of_ble_eq_true rfl) rfl kc_10 (k := 3) rfl (by decide) rfl rfl wl_331 dX10_give_46 ?_
          refine gm_aload_n C dX10_give_49 rfl 0 rfl ?_
          refine gm_getr (j := 8) (u := 8) C (Nat.le_of_ble_eq_true rfl) rfl kc_10 (k := 1) rfl (by decide) rfl rfl wl_329 dX10_give_50 ?_
          obtain ⟨S8, eS8, hf⟩ := gm_bp1_s hf
          refine gm_callVv (As := [.ref (ad 8)]) C (Ps_remember_c l cf ad eS8) (Nat.le_of_ble_eq_true rfl) rfl kc_4 wy_Ps_remember rfl wl_673 rfl ⟨(Nat.le_of_ble_eq_true rfl), (Nat.le_of_ble_eq_true rfl)⟩ rfl (Nat.le_of_ble_eq_true rfl) dX10_give_53 ?_
          refine gm_aload_n C dX10_give_56 rfl 0 rfl ?_
          refine gm_getr (j := 8) (u := 8) C (Nat.le_of_ble_eq_true rfl) rfl kc_10 (k := 1) rfl (by decide) rfl rfl wl_329 dX10_give_57 ?_
          refine gm_iload_n C dX10_give_60 rfl 1 rfl ?_
          refine gm_iload_n C dX10_give_61 rfl 2 rfl ?_
          obtain ⟨S9, eS9, hf⟩ := gm_bp1_s hf
          refine gm_callVv (As := [.int a0, .int a1]) C (Tr_giveLucky_c l cf ad gm_tr_8 eS9) (Nat.le_of_ble_eq_true rfl) rfl kc_9 wy_Tr_giveLucky rfl wl_711 rfl ⟨(Nat.le_of_ble_eq_true rfl), (Nat.le_of_ble_eq_true rfl)⟩ rfl (Nat.le_of_ble_eq_true rfl) dX10_give_62 ?_
          refine gm_aload_n C dX10_give_65 rfl 0 rfl ?_
          refine gm_getr (j := 8) (u := 8) C (Nat.le_of_ble_eq_true rfl) rfl kc_10 (k := 1) rfl (by decide) rfl rfl wl_329 dX10_give_66 ?_
          refine gm_iload_n C dX10_give_69 rfl 2 rfl ?_
          refine gm_iconst (v := 2) C dX10_give_70 (by decide) ?_
          obtain ⟨v10, ev10, hf⟩ := gm_bp1_s hf
          refine gm_callVi (As := [.int a1, .int 2]) C (Tr_riderCell_c l cf ad gm_tr_8 ev10) (Nat.le_of_ble_eq_true rfl) rfl kc_9 wy_Tr_riderCell rfl wl_655 rfl ⟨(Nat.le_of_ble_eq_true rfl), (Nat.le_of_ble_eq_true rfl)⟩ rfl (Nat.le_of_ble_eq_true rfl) dX10_give_71 ?_
          exact gm_iret C hr rfl dX10_give_74 hf
        · have hf := gm_it _ c7 hf
          refine gm_ldc (v := (-1000000003)) C wl_672 dX10_give_42 ?_
          exact gm_iret C hr rfl dX10_give_44 hf
      · have hf := gm_it _ c5 hf
        refine gm_ldc (v := (-1000000001)) C wl_617 dX10_give_27 ?_
        exact gm_iret C hr rfl dX10_give_29 hf
theorem dX10_rule_0 : decode cX10_rule 0 = .ok (.aload_n 0, 1) := by decide +kernel
theorem dX10_rule_1 : decode cX10_rule 1 = .ok (.getfield 19, 3) := by decide +kernel
theorem dX10_rule_4 : decode cX10_rule 4 = .ok (.iload_n 1, 1) := by decide +kernel
theorem dX10_rule_5 : decode cX10_rule 5 = .ok (.invokevirtual 139, 3) := by decide +kernel
theorem dX10_rule_8 : decode cX10_rule 8 = .ok (.ifCond .ne 6, 3) := by decide +kernel
theorem dX10_rule_11 : decode cX10_rule 11 = .ok (.ldc 143, 2) := by decide +kernel
theorem dX10_rule_13 : decode cX10_rule 13 = .ok (.ireturn, 1) := by decide +kernel
theorem dX10_rule_14 : decode cX10_rule 14 = .ok (.iload_n 2, 1) := by decide +kernel
theorem dX10_rule_15 : decode cX10_rule 15 = .ok (.iload_n 3, 1) := by decide +kernel
theorem dX10_rule_16 : decode cX10_rule 16 = .ok (.iload 4, 2) := by decide +kernel
theorem dX10_rule_18 : decode cX10_rule 18 = .ok (.invokestatic 213, 3) := by decide +kernel
theorem dX10_rule_21 : decode cX10_rule 21 = .ok (.ifCond .ne 6, 3) := by decide +kernel
theorem dX10_rule_24 : decode cX10_rule 24 = .ok (.ldc 62, 2) := by decide +kernel
theorem dX10_rule_26 : decode cX10_rule 26 = .ok (.ireturn, 1) := by decide +kernel
theorem dX10_rule_27 : decode cX10_rule 27 = .ok (.aload_n 0, 1) := by decide +kernel
theorem dX10_rule_28 : decode cX10_rule 28 = .ok (.getfield 33, 3) := by decide +kernel
theorem dX10_rule_31 : decode cX10_rule 31 = .ok (.aload_n 0, 1) := by decide +kernel
theorem dX10_rule_32 : decode cX10_rule 32 = .ok (.getfield 19, 3) := by decide +kernel
theorem dX10_rule_35 : decode cX10_rule 35 = .ok (.invokevirtual 202, 3) := by decide +kernel
theorem dX10_rule_38 : decode cX10_rule 38 = .ok (.aload_n 0, 1) := by decide +kernel
theorem dX10_rule_39 : decode cX10_rule 39 = .ok (.getfield 19, 3) := by decide +kernel
theorem dX10_rule_42 : decode cX10_rule 42 = .ok (.getfield 144, 3) := by decide +kernel
theorem dX10_rule_45 : decode cX10_rule 45 = .ok (.iload_n 1, 1) := by decide +kernel
theorem dX10_rule_46 : decode cX10_rule 46 = .ok (.iload_n 2, 1) := by decide +kernel
theorem dX10_rule_47 : decode cX10_rule 47 = .ok (.iload_n 3, 1) := by decide +kernel
theorem dX10_rule_48 : decode cX10_rule 48 = .ok (.iload 4, 2) := by decide +kernel
theorem dX10_rule_50 : decode cX10_rule 50 = .ok (.invokestatic 217, 3) := by decide +kernel
theorem dX10_rule_53 : decode cX10_rule 53 = .ok (.iastore, 1) := by decide +kernel
theorem dX10_rule_54 : decode cX10_rule 54 = .ok (.aload_n 0, 1) := by decide +kernel
theorem dX10_rule_55 : decode cX10_rule 55 = .ok (.getfield 26, 3) := by decide +kernel
theorem dX10_rule_58 : decode cX10_rule 58 = .ok (.aload_n 0, 1) := by decide +kernel
theorem dX10_rule_59 : decode cX10_rule 59 = .ok (.getfield 19, 3) := by decide +kernel
theorem dX10_rule_62 : decode cX10_rule 62 = .ok (.invokevirtual 91, 3) := by decide +kernel
theorem dX10_rule_65 : decode cX10_rule 65 = .ok (.aload_n 0, 1) := by decide +kernel
theorem dX10_rule_66 : decode cX10_rule 66 = .ok (.getfield 26, 3) := by decide +kernel
theorem dX10_rule_69 : decode cX10_rule 69 = .ok (.getfield 124, 3) := by decide +kernel
theorem dX10_rule_72 : decode cX10_rule 72 = .ok (.ireturn, 1) := by decide +kernel
def Lt_rule (fl : Nat) (a0 : Int32) (a1 : Int32) (a2 : Int32) (a3 : Int32) (S : gm_M) : Option (Int32 × gm_M) :=
  gm_bp1 (Tr_hasRule 8 a0 S) fun v1 =>
  if v1 = 0 then (
    some ((-1000000001), S)
  ) else (
    gm_bp1 (Ru_mayBeTold a1 a2 a3) fun v3 =>
    if v3 = 0 then (
      some ((-1000000002), S)
    ) else (
      gm_bp1 (Ps_remember S) fun S5 =>
      gm_bp1 (Ru_code a1 a2 a3) fun v6 =>
      gm_ck (a0) 4 <|
      gm_lt (α := gm_M) (gm_ui S5 9 (a0.toNatClampNeg) v6) fun S8 =>
      gm_bp1 (Tb_follow fl S8) fun S9 =>
      some (S9.1 12 9, S9)
    )
  )
set_option maxHeartbeats 4000000 in
set_option maxRecDepth 100000 in
theorem Lt_rule_c (l : Launch) (cf : gm_C) (ad : Nat → Nat) {fl : Nat}   {a0 : Int32} {a1 : Int32} {a2 : Int32} {a3 : Int32} {S : gm_M} {r : Int32} {S'  : gm_M} (hf : Lt_rule fl a0 a1 a2 a3 S = some (r, S')) : gm_Met l yX10_rule cX10_rule 5 (some .int) 5 103 cf ad gm_sC 106 [.ref (ad 0), .int a0, .int a1, .int a2, .int a3] S (some (.int r)) S' := by
  refine gm_met (by decide +kernel) (Nat.le_of_ble_eq_true rfl) ?_
  intro p e s m args below meth c C hr
  have C : gm_F p s m args meth c cf ad 106 cX10_rule 5 RX10 := C
  refine gm_lve (lv' := [(0, .ref (ad 0)), (1, .int a0), (2, .int a1), (3, .int a2), (4, .int a3)]) rfl ?_
  unfold Lt_rule at hf
  refine gm_aload_n C dX10_rule_0 rfl 0 rfl ?_
  refine gm_getr (j := 8) (u := 8) C (Nat.le_of_ble_eq_true rfl) rfl kc_10 (k := 1) rfl (by decide) rfl rfl wl_329 dX10_rule_1 ?_
  refine gm_iload_n C dX10_rule_4 rfl 1 rfl ?_
  obtain ⟨v1, ev1, hf⟩ := gm_bp1_s hf
  refine gm_callVi (As := [.int a0]) C (Tr_hasRule_c l cf ad gm_tr_8 ev1) (Nat.le_of_ble_eq_true rfl) rfl kc_9 wy_Tr_hasRule rfl wl_613 rfl ⟨(Nat.le_of_ble_eq_true rfl), (Nat.le_of_ble_eq_true rfl)⟩ rfl (Nat.le_of_ble_eq_true rfl) dX10_rule_5 ?_
  refine gm_if_ne C 14 dX10_rule_8 (by decide) (fun c2 => ?_) (fun c2 => ?_)
  · have hf := gm_if _ c2 hf
    refine gm_iload_n C dX10_rule_14 rfl 2 rfl ?_
    refine gm_iload_n C dX10_rule_15 rfl 3 rfl ?_
    refine gm_iload C dX10_rule_16 4 rfl ?_
    obtain ⟨v3, ev3, hf⟩ := gm_bp1_s hf
    refine gm_callSi (As := [.int a1, .int a2, .int a3]) C (Ru_mayBeTold_c l cf ad ev3 (S := S)) wy_Ru_mayBeTold wl_719 rfl ⟨(Nat.le_of_ble_eq_true rfl), (Nat.le_of_ble_eq_true rfl)⟩ rfl (Nat.le_of_ble_eq_true rfl) dX10_rule_18 ?_
    refine gm_if_ne C 27 dX10_rule_21 (by decide) (fun c4 => ?_) (fun c4 => ?_)
    · have hf := gm_if _ c4 hf
      refine gm_aload_n C dX10_rule_27 rfl 0 rfl ?_
      refine gm_getr (j := 22) (u := 22) C (Nat.le_of_ble_eq_true rfl) rfl kc_10 (k := 3) rfl (by decide) rfl rfl wl_331 dX10_rule_28 ?_
      refine gm_aload_n C dX10_rule_31 rfl 0 rfl ?_
      refine gm_getr (j := 8) (u := 8) C (Nat.le_of_ble_eq_true rfl) rfl kc_10 (k := 1) rfl (by decide) rfl rfl wl_329 dX10_rule_32 ?_
      obtain ⟨S5, eS5, hf⟩ := gm_bp1_s hf
      refine gm_callVv (As := [.ref (ad 8)]) C (Ps_remember_c l cf ad eS5) (Nat.le_of_ble_eq_true rfl) rfl kc_4 wy_Ps_remember rfl wl_673 rfl ⟨(Nat.le_of_ble_eq_true rfl), (Nat.le_of_ble_eq_true rfl)⟩ rfl (Nat.le_of_ble_eq_true rfl) dX10_rule_35 ?_
      refine gm_aload_n C dX10_rule_38 rfl 0 rfl ?_
      refine gm_getr (j := 8) (u := 8) C (Nat.le_of_ble_eq_true rfl) rfl kc_10 (k := 1) rfl (by decide) rfl rfl wl_329 dX10_rule_39 ?_
      refine gm_getr (j := 1) (u := 9) C (Nat.le_of_ble_eq_true rfl) rfl kc_9 (k := 0) rfl (by decide) rfl rfl wl_106 dX10_rule_42 ?_
      refine gm_iload_n C dX10_rule_45 rfl 1 rfl ?_
      refine gm_iload_n C dX10_rule_46 rfl 2 rfl ?_
      refine gm_iload_n C dX10_rule_47 rfl 3 rfl ?_
      refine gm_iload C dX10_rule_48 4 rfl ?_
      obtain ⟨v6, ev6, hf⟩ := gm_bp1_s hf
      refine gm_callSi (As := [.int a1, .int a2, .int a3]) C (Ru_code_c l cf ad ev6 (S := S5)) wy_Ru_code wl_720 rfl ⟨(Nat.le_of_ble_eq_true rfl), (Nat.le_of_ble_eq_true rfl)⟩ rfl (Nat.le_of_ble_eq_true rfl) dX10_rule_50 ?_
      obtain ⟨h7, hf⟩ := gm_ck_s hf
      refine gm_iast C (Nat.le_of_ble_eq_true rfl) rfl rfl h7 dX10_rule_53 ?_
      obtain ⟨S8, eS8, hf⟩ := gm_lt_s hf
      refine gm_topm eS8 ?_
      refine gm_aload_n C dX10_rule_54 rfl 0 rfl ?_
      refine gm_getr (j := 12) (u := 12) C (Nat.le_of_ble_eq_true rfl) rfl kc_10 (k := 2) rfl (by decide) rfl rfl wl_330 dX10_rule_55 ?_
      refine gm_aload_n C dX10_rule_58 rfl 0 rfl ?_
      refine gm_getr (j := 8) (u := 8) C (Nat.le_of_ble_eq_true rfl) rfl kc_10 (k := 1) rfl (by decide) rfl rfl wl_329 dX10_rule_59 ?_
      obtain ⟨S9, eS9, hf⟩ := gm_bp1_s hf
      refine gm_callVv (As := [.ref (ad 8)]) C (Tb_follow_c l cf ad eS9) (Nat.le_of_ble_eq_true rfl) rfl kc_3 wy_Tb_follow rfl wl_480 rfl ⟨(Nat.le_of_ble_eq_true rfl), (Nat.le_of_ble_eq_true rfl)⟩ rfl (Nat.le_of_ble_eq_true rfl) dX10_rule_62 ?_
      refine gm_aload_n C dX10_rule_65 rfl 0 rfl ?_
      refine gm_getr (j := 12) (u := 12) C (Nat.le_of_ble_eq_true rfl) rfl kc_10 (k := 2) rfl (by decide) rfl rfl wl_330 dX10_rule_66 ?_
      refine gm_geti C (Nat.le_of_ble_eq_true rfl) rfl kc_3 (k := 9) rfl (by decide) rfl wl_213 dX10_rule_69 ?_
      exact gm_iret C hr rfl dX10_rule_72 hf
    · have hf := gm_it _ c4 hf
      refine gm_ldc (v := (-1000000002)) C wl_360 dX10_rule_24 ?_
      exact gm_iret C hr rfl dX10_rule_26 hf
  · have hf := gm_it _ c2 hf
    refine gm_ldc (v := (-1000000001)) C wl_617 dX10_rule_11 ?_
    exact gm_iret C hr rfl dX10_rule_13 hf
theorem dX10_mode_0 : decode cX10_mode 0 = .ok (.iload_n 1, 1) := by decide +kernel
theorem dX10_mode_1 : decode cX10_mode 1 = .ok (.ifCond .eq 11, 3) := by decide +kernel
theorem dX10_mode_4 : decode cX10_mode 4 = .ok (.iload_n 1, 1) := by decide +kernel
theorem dX10_mode_5 : decode cX10_mode 5 = .ok (.iconst 1, 1) := by decide +kernel
theorem dX10_mode_6 : decode cX10_mode 6 = .ok (.if_icmp .eq 6, 3) := by decide +kernel
theorem dX10_mode_9 : decode cX10_mode 9 = .ok (.ldc 62, 2) := by decide +kernel
theorem dX10_mode_11 : decode cX10_mode 11 = .ok (.ireturn, 1) := by decide +kernel
theorem dX10_mode_12 : decode cX10_mode 12 = .ok (.aload_n 0, 1) := by decide +kernel
theorem dX10_mode_13 : decode cX10_mode 13 = .ok (.getfield 19, 3) := by decide +kernel
theorem dX10_mode_16 : decode cX10_mode 16 = .ok (.getfield 97, 3) := by decide +kernel
theorem dX10_mode_19 : decode cX10_mode 19 = .ok (.ifCond .eq 14, 3) := by decide +kernel
theorem dX10_mode_22 : decode cX10_mode 22 = .ok (.aload_n 0, 1) := by decide +kernel
theorem dX10_mode_23 : decode cX10_mode 23 = .ok (.getfield 19, 3) := by decide +kernel
theorem dX10_mode_26 : decode cX10_mode 26 = .ok (.getfield 112, 3) := by decide +kernel
theorem dX10_mode_29 : decode cX10_mode 29 = .ok (.iload_n 1, 1) := by decide +kernel
theorem dX10_mode_30 : decode cX10_mode 30 = .ok (.if_icmp .ne 6, 3) := by decide +kernel
theorem dX10_mode_33 : decode cX10_mode 33 = .ok (.ldc 201, 2) := by decide +kernel
theorem dX10_mode_35 : decode cX10_mode 35 = .ok (.ireturn, 1) := by decide +kernel
theorem dX10_mode_36 : decode cX10_mode 36 = .ok (.aload_n 0, 1) := by decide +kernel
theorem dX10_mode_37 : decode cX10_mode 37 = .ok (.getfield 33, 3) := by decide +kernel
theorem dX10_mode_40 : decode cX10_mode 40 = .ok (.aload_n 0, 1) := by decide +kernel
theorem dX10_mode_41 : decode cX10_mode 41 = .ok (.getfield 19, 3) := by decide +kernel
theorem dX10_mode_44 : decode cX10_mode 44 = .ok (.invokevirtual 202, 3) := by decide +kernel
theorem dX10_mode_47 : decode cX10_mode 47 = .ok (.aload_n 0, 1) := by decide +kernel
theorem dX10_mode_48 : decode cX10_mode 48 = .ok (.getfield 19, 3) := by decide +kernel
theorem dX10_mode_51 : decode cX10_mode 51 = .ok (.iload_n 1, 1) := by decide +kernel
theorem dX10_mode_52 : decode cX10_mode 52 = .ok (.putfield 112, 3) := by decide +kernel
theorem dX10_mode_55 : decode cX10_mode 55 = .ok (.aload_n 0, 1) := by decide +kernel
theorem dX10_mode_56 : decode cX10_mode 56 = .ok (.getfield 26, 3) := by decide +kernel
theorem dX10_mode_59 : decode cX10_mode 59 = .ok (.aload_n 0, 1) := by decide +kernel
theorem dX10_mode_60 : decode cX10_mode 60 = .ok (.getfield 19, 3) := by decide +kernel
theorem dX10_mode_63 : decode cX10_mode 63 = .ok (.invokevirtual 91, 3) := by decide +kernel
theorem dX10_mode_66 : decode cX10_mode 66 = .ok (.aload_n 0, 1) := by decide +kernel
theorem dX10_mode_67 : decode cX10_mode 67 = .ok (.getfield 26, 3) := by decide +kernel
theorem dX10_mode_70 : decode cX10_mode 70 = .ok (.getfield 124, 3) := by decide +kernel
theorem dX10_mode_73 : decode cX10_mode 73 = .ok (.ireturn, 1) := by decide +kernel
def Lt_mode (fl : Nat) (a0 : Int32) (S : gm_M) : Option (Int32 × gm_M) :=
  if a0 = 0 then (
    if S.1 8 3 = 0 then (
      some ((-1000000003), S)
    ) else (
      if S.1 8 4 = a0 then (
        some ((-1000000003), S)
      ) else (
        gm_bp1 (Ps_remember S) fun S4 =>
        gm_lt (α := gm_M) (gm_ui S4 8 4 a0) fun S5 =>
        gm_bp1 (Tb_follow fl S5) fun S6 =>
        some (S6.1 12 9, S6)
      )
    )
  ) else (
    if a0 = 1 then (
      if S.1 8 3 = 0 then (
        some ((-1000000003), S)
      ) else (
        if S.1 8 4 = a0 then (
          some ((-1000000003), S)
        ) else (
          gm_bp1 (Ps_remember S) fun S10 =>
          gm_lt (α := gm_M) (gm_ui S10 8 4 a0) fun S11 =>
          gm_bp1 (Tb_follow fl S11) fun S12 =>
          some (S12.1 12 9, S12)
        )
      )
    ) else (
      some ((-1000000002), S)
    )
  )
set_option maxHeartbeats 4000000 in
set_option maxRecDepth 100000 in
theorem Lt_mode_c (l : Launch) (cf : gm_C) (ad : Nat → Nat) {fl : Nat}   {a0 : Int32} {S : gm_M} {r : Int32} {S'  : gm_M} (hf : Lt_mode fl a0 S = some (r, S')) : gm_Met l yX10_mode cX10_mode 2 (some .int) 5 103 cf ad gm_sC 106 [.ref (ad 0), .int a0] S (some (.int r)) S' := by
  refine gm_met (by decide +kernel) (Nat.le_of_ble_eq_true rfl) ?_
  intro p e s m args below meth c C hr
  have C : gm_F p s m args meth c cf ad 106 cX10_mode 2 RX10 := C
  refine gm_lve (lv' := [(0, .ref (ad 0)), (1, .int a0)]) rfl ?_
  unfold Lt_mode at hf
  refine gm_iload_n C dX10_mode_0 rfl 1 rfl ?_
  refine gm_if_eq C 12 dX10_mode_1 (by decide) (fun c1 => ?_) (fun c1 => ?_)
  · have hf := gm_it _ c1 hf
    refine gm_aload_n C dX10_mode_12 rfl 0 rfl ?_
    refine gm_getr (j := 8) (u := 8) C (Nat.le_of_ble_eq_true rfl) rfl kc_10 (k := 1) rfl (by decide) rfl rfl wl_329 dX10_mode_13 ?_
    refine gm_geti C (Nat.le_of_ble_eq_true rfl) rfl kc_9 (k := 3) rfl (by decide) rfl wl_111 dX10_mode_16 ?_
    refine gm_if_eq C 33 dX10_mode_19 (by decide) (fun c2 => ?_) (fun c2 => ?_)
    · have hf := gm_it _ c2 hf
      refine gm_ldc (v := (-1000000003)) C wl_672 dX10_mode_33 ?_
      exact gm_iret C hr rfl dX10_mode_35 hf
    · have hf := gm_if _ c2 hf
      refine gm_aload_n C dX10_mode_22 rfl 0 rfl ?_
      refine gm_getr (j := 8) (u := 8) C (Nat.le_of_ble_eq_true rfl) rfl kc_10 (k := 1) rfl (by decide) rfl rfl wl_329 dX10_mode_23 ?_
      refine gm_geti C (Nat.le_of_ble_eq_true rfl) rfl kc_9 (k := 4) rfl (by decide) rfl wl_115 dX10_mode_26 ?_
      refine gm_iload_n C dX10_mode_29 rfl 1 rfl ?_
      refine gm_icmp_ne C 36 dX10_mode_30 (by decide) (fun c3 => ?_) (fun c3 => ?_)
      · have hf := gm_if _ c3 hf
        refine gm_aload_n C dX10_mode_36 rfl 0 rfl ?_
        refine gm_getr (j := 22) (u := 22) C (Nat.le_of_ble_eq_true rfl) rfl kc_10 (k := 3) rfl (by decide) rfl rfl wl_331 dX10_mode_37 ?_
        refine gm_aload_n C dX10_mode_40 rfl 0 rfl ?_
        refine gm_getr (j := 8) (u := 8) C (Nat.le_of_ble_eq_true rfl) rfl kc_10 (k := 1) rfl (by decide) rfl rfl wl_329 dX10_mode_41 ?_
        obtain ⟨S4, eS4, hf⟩ := gm_bp1_s hf
        refine gm_callVv (As := [.ref (ad 8)]) C (Ps_remember_c l cf ad eS4) (Nat.le_of_ble_eq_true rfl) rfl kc_4 wy_Ps_remember rfl wl_673 rfl ⟨(Nat.le_of_ble_eq_true rfl), (Nat.le_of_ble_eq_true rfl)⟩ rfl (Nat.le_of_ble_eq_true rfl) dX10_mode_44 ?_
        refine gm_aload_n C dX10_mode_47 rfl 0 rfl ?_
        refine gm_getr (j := 8) (u := 8) C (Nat.le_of_ble_eq_true rfl) rfl kc_10 (k := 1) rfl (by decide) rfl rfl wl_329 dX10_mode_48 ?_
        refine gm_iload_n C dX10_mode_51 rfl 1 rfl ?_
        refine gm_puti C (Nat.le_of_ble_eq_true rfl) rfl kc_9 (k := 4) rfl (by decide) rfl rfl (kc_9.2.2.2.1 4 (by decide)) rfl rfl wl_115 dX10_mode_52 ?_
        obtain ⟨S5, eS5, hf⟩ := gm_lt_s hf
        refine gm_topm eS5 ?_
        refine gm_aload_n C dX10_mode_55 rfl 0 rfl ?_
        refine gm_getr (j := 12) (u := 12) C (Nat.le_of_ble_eq_true rfl) rfl kc_10 (k := 2) rfl (by decide) rfl rfl wl_330 dX10_mode_56 ?_
        refine gm_aload_n C dX10_mode_59 rfl 0 rfl ?_
        refine gm_getr (j := 8) (u := 8) C (Nat.le_of_ble_eq_true rfl) rfl kc_10 (k := 1) rfl (by decide) rfl rfl wl_329 dX10_mode_60 ?_
        obtain ⟨S6, eS6, hf⟩ := gm_bp1_s hf
        refine gm_callVv (As := [.ref (ad 8)]) C (Tb_follow_c l cf ad eS6) (Nat.le_of_ble_eq_true rfl) rfl kc_3 wy_Tb_follow rfl wl_480 rfl ⟨(Nat.le_of_ble_eq_true rfl), (Nat.le_of_ble_eq_true rfl)⟩ rfl (Nat.le_of_ble_eq_true rfl) dX10_mode_63 ?_
        refine gm_aload_n C dX10_mode_66 rfl 0 rfl ?_
        refine gm_getr (j := 12) (u := 12) C (Nat.le_of_ble_eq_true rfl) rfl kc_10 (k := 2) rfl (by decide) rfl rfl wl_330 dX10_mode_67 ?_
        refine gm_geti C (Nat.le_of_ble_eq_true rfl) rfl kc_3 (k := 9) rfl (by decide) rfl wl_213 dX10_mode_70 ?_
        exact gm_iret C hr rfl dX10_mode_73 hf
      · have hf := gm_it _ c3 hf
        refine gm_ldc (v := (-1000000003)) C wl_672 dX10_mode_33 ?_
        exact gm_iret C hr rfl dX10_mode_35 hf
  · have hf := gm_if _ c1 hf
    refine gm_iload_n C dX10_mode_4 rfl 1 rfl ?_
    refine gm_iconst (v := 1) C dX10_mode_5 (by decide) ?_
    refine gm_icmp_eq C 12 dX10_mode_6 (by decide) (fun c7 => ?_) (fun c7 => ?_)
    · have hf := gm_it _ c7 hf
      refine gm_aload_n C dX10_mode_12 rfl 0 rfl ?_
      refine gm_getr (j := 8) (u := 8) C (Nat.le_of_ble_eq_true rfl) rfl kc_10 (k := 1) rfl (by decide) rfl rfl wl_329 dX10_mode_13 ?_
      refine gm_geti C (Nat.le_of_ble_eq_true rfl) rfl kc_9 (k := 3) rfl (by decide) rfl wl_111 dX10_mode_16 ?_
      refine gm_if_eq C 33 dX10_mode_19 (by decide) (fun c8 => ?_) (fun c8 => ?_)
      · have hf := gm_it _ c8 hf
        refine gm_ldc (v := (-1000000003)) C wl_672 dX10_mode_33 ?_
        exact gm_iret C hr rfl dX10_mode_35 hf
      · have hf := gm_if _ c8 hf
        refine gm_aload_n C dX10_mode_22 rfl 0 rfl ?_
        refine gm_getr (j := 8) (u := 8) C (Nat.le_of_ble_eq_true rfl) rfl kc_10 (k := 1) rfl (by decide) rfl rfl wl_329 dX10_mode_23 ?_
        refine gm_geti C (Nat.le_of_ble_eq_true rfl) rfl kc_9 (k := 4) rfl (by decide) rfl wl_115 dX10_mode_26 ?_
        refine gm_iload_n C dX10_mode_29 rfl 1 rfl ?_
        refine gm_icmp_ne C 36 dX10_mode_30 (by decide) (fun c9 => ?_) (fun c9 => ?_)
        · have hf := gm_if _ c9 hf
          refine gm_aload_n C dX10_mode_36 rfl 0 rfl ?_
          refine gm_getr (j := 22) (u := 22) C (Nat.le_of_ble_eq_true rfl) rfl kc_10 (k := 3) rfl (by decide) rfl rfl wl_331 dX10_mode_37 ?_
          refine gm_aload_n C dX10_mode_40 rfl 0 rfl ?_
          refine gm_getr (j := 8) (u := 8) C (Nat.le_of_ble_eq_true rfl) rfl kc_10 (k := 1) rfl (by decide) rfl rfl wl_329 dX10_mode_41 ?_
          obtain ⟨S10, eS10, hf⟩ := gm_bp1_s hf
          refine gm_callVv (As := [.ref (ad 8)]) C (Ps_remember_c l cf ad eS10) (Nat.le_of_ble_eq_true rfl) rfl kc_4 wy_Ps_remember rfl wl_673 rfl ⟨(Nat.le_of_ble_eq_true rfl), (Nat.le_of_ble_eq_true rfl)⟩ rfl (Nat.le_of_ble_eq_true rfl) dX10_mode_44 ?_
          refine gm_aload_n C dX10_mode_47 rfl 0 rfl ?_
          refine gm_getr (j := 8) (u := 8) C (Nat.le_of_ble_eq_true rfl) rfl kc_10 (k := 1) rfl (by decide) rfl rfl wl_329 dX10_mode_48 ?_
          refine gm_iload_n C dX10_mode_51 rfl 1 rfl ?_
          refine gm_puti C (Nat.le_of_ble_eq_true rfl) rfl kc_9 (k := 4) rfl (by decide) rfl rfl (kc_9.2.2.2.1 4 (by decide)) rfl rfl wl_115 dX10_mode_52 ?_
          obtain ⟨S11, eS11, hf⟩ := gm_lt_s hf
          refine gm_topm eS11 ?_
          refine gm_aload_n C dX10_mode_55 rfl 0 rfl ?_
          refine gm_getr (j := 12) (u := 12) C (Nat.le_of_ble_eq_true rfl) rfl kc_10 (k := 2) rfl (by decide) rfl rfl wl_330 dX10_mode_56 ?_
          refine gm_aload_n C dX10_mode_59 rfl 0 rfl ?_
          refine gm_getr (j := 8) (u := 8) C (Nat.le_of_ble_eq_true rfl) rfl kc_10 (k := 1) rfl (by decide) rfl rfl wl_329 dX10_mode_60 ?_
          obtain ⟨S12, eS12, hf⟩ := gm_bp1_s hf
          refine gm_callVv (As := [.ref (ad 8)]) C (Tb_follow_c l cf ad eS12) (Nat.le_of_ble_eq_true rfl) rfl kc_3 wy_Tb_follow rfl wl_480 rfl ⟨(Nat.le_of_ble_eq_true rfl), (Nat.le_of_ble_eq_true rfl)⟩ rfl (Nat.le_of_ble_eq_true rfl) dX10_mode_63 ?_
          refine gm_aload_n C dX10_mode_66 rfl 0 rfl ?_
          refine gm_getr (j := 12) (u := 12) C (Nat.le_of_ble_eq_true rfl) rfl kc_10 (k := 2) rfl (by decide) rfl rfl wl_330 dX10_mode_67 ?_
          refine gm_geti C (Nat.le_of_ble_eq_true rfl) rfl kc_3 (k := 9) rfl (by decide) rfl wl_213 dX10_mode_70 ?_
          exact gm_iret C hr rfl dX10_mode_73 hf
        · have hf := gm_it _ c9 hf
          refine gm_ldc (v := (-1000000003)) C wl_672 dX10_mode_33 ?_
          exact gm_iret C hr rfl dX10_mode_35 hf
    · have hf := gm_if _ c7 hf
      refine gm_ldc (v := (-1000000002)) C wl_360 dX10_mode_9 ?_
      exact gm_iret C hr rfl dX10_mode_11 hf
