theorem dX7_add_0 : decode cX7_add 0 = .ok (.aload_n 0, 1) := by decide +kernel
theorem dX7_add_1 : decode cX7_add 1 = .ok (.getfield 15, 3) := by decide +kernel
theorem dX7_add_4 : decode cX7_add 4 = .ok (.sipush 240, 3) := by decide +kernel
theorem dX7_add_7 : decode cX7_add 7 = .ok (.if_icmp .lt 5, 3) := by decide +kernel
theorem dX7_add_10 : decode cX7_add 10 = .ok (.iconst 0, 1) := by decide +kernel
theorem dX7_add_11 : decode cX7_add 11 = .ok (.ireturn, 1) := by decide +kernel
theorem dX7_add_12 : decode cX7_add 12 = .ok (.aload_n 0, 1) := by decide +kernel
theorem dX7_add_13 : decode cX7_add 13 = .ok (.getfield 9, 3) := by decide +kernel
theorem dX7_add_16 : decode cX7_add 16 = .ok (.aload_n 0, 1) := by decide +kernel
theorem dX7_add_17 : decode cX7_add 17 = .ok (.getfield 15, 3) := by decide +kernel
theorem dX7_add_20 : decode cX7_add 20 = .ok (.iload_n 1, 1) := by decide +kernel
theorem dX7_add_21 : decode cX7_add 21 = .ok (.castore, 1) := by decide +kernel
theorem dX7_add_22 : decode cX7_add 22 = .ok (.aload_n 0, 1) := by decide +kernel
theorem dX7_add_23 : decode cX7_add 23 = .ok (.dup, 1) := by decide +kernel
theorem dX7_add_24 : decode cX7_add 24 = .ok (.getfield 15, 3) := by decide +kernel
theorem dX7_add_27 : decode cX7_add 27 = .ok (.iconst 1, 1) := by decide +kernel
theorem dX7_add_28 : decode cX7_add 28 = .ok (.iadd, 1) := by decide +kernel
theorem dX7_add_29 : decode cX7_add 29 = .ok (.putfield 15, 3) := by decide +kernel
theorem dX7_add_32 : decode cX7_add 32 = .ok (.iconst 1, 1) := by decide +kernel
theorem dX7_add_33 : decode cX7_add 33 = .ok (.ireturn, 1) := by decide +kernel
def Tx_add (a0 : Int32) (S : gm_M) : Option (Int32 × gm_M) :=
  if S.1 2 1 < 240 then (
    gm_ck (S.1 2 1) 240 <|
    gm_lt (α := gm_M) (gm_ui S 3 ((S.1 2 1).toNatClampNeg) (vp_nar .char a0)) fun S3 =>
    gm_lt (α := gm_M) (gm_ui S3 2 1 ((S3.1 2 1) + 1)) fun S4 =>
    some (1, S4)
  ) else (
    some (0, S)
  )
set_option maxHeartbeats 4000000 in
set_option maxRecDepth 100000 in
theorem Tx_add_c (l : Launch) (cf : gm_C) (ad : Nat → Nat)    {a0 : Int32} {S : gm_M} {r : Int32} {S'  : gm_M} (hf : Tx_add a0 S = some (r, S')) : gm_Met l yX7_add cX7_add 2 (some .boolean) 0 0 cf ad gm_sC 106 [.ref (ad 2), .int a0] S (some (.int r)) S' := by
  refine gm_met (by decide +kernel) (Nat.le_of_ble_eq_true rfl) ?_
  intro p e s m args below meth c C hr
  have C : gm_F p s m args meth c cf ad 106 cX7_add 2 RX7 := C
  refine gm_lve (lv' := [(0, .ref (ad 2)), (1, .int a0)]) rfl ?_
  unfold Tx_add at hf
  refine gm_aload_n C dX7_add_0 rfl 0 rfl ?_
  refine gm_geti C (Nat.le_of_ble_eq_true rfl) rfl kc_7 (k := 1) rfl (by decide) rfl wl_89 dX7_add_1 ?_
  refine gm_sipush (v := 240) C dX7_add_4 (by decide) ?_
  refine gm_icmp_lt C 12 dX7_add_7 (by decide) (fun c1 => ?_) (fun c1 => ?_)
  · have hf := gm_it _ c1 hf
    refine gm_aload_n C dX7_add_12 rfl 0 rfl ?_
    refine gm_getr (j := 1) (u := 3) C (Nat.le_of_ble_eq_true rfl) rfl kc_7 (k := 0) rfl (by decide) rfl rfl wl_88 dX7_add_13 ?_
    refine gm_aload_n C dX7_add_16 rfl 0 rfl ?_
    refine gm_geti C (Nat.le_of_ble_eq_true rfl) rfl kc_7 (k := 1) rfl (by decide) rfl wl_89 dX7_add_17 ?_
    refine gm_iload_n C dX7_add_20 rfl 1 rfl ?_
    obtain ⟨h2, hf⟩ := gm_ck_s hf
    refine gm_cast C (Nat.le_of_ble_eq_true rfl) rfl rfl h2 dX7_add_21 ?_
    obtain ⟨S3, eS3, hf⟩ := gm_lt_s hf
    refine gm_topm eS3 ?_
    refine gm_aload_n C dX7_add_22 rfl 0 rfl ?_
    refine gm_dup C dX7_add_23 rfl ?_
    refine gm_geti C (Nat.le_of_ble_eq_true rfl) rfl kc_7 (k := 1) rfl (by decide) rfl wl_89 dX7_add_24 ?_
    refine gm_iconst (v := 1) C dX7_add_27 (by decide) ?_
    refine gm_iadd C dX7_add_28 ?_
    refine gm_puti C (Nat.le_of_ble_eq_true rfl) rfl kc_7 (k := 1) rfl (by decide) rfl rfl (kc_7.2.2.2.1 1 (by decide)) rfl rfl wl_89 dX7_add_29 ?_
    obtain ⟨S4, eS4, hf⟩ := gm_lt_s hf
    refine gm_topm eS4 ?_
    refine gm_iconst (v := 1) C dX7_add_32 (by decide) ?_
    exact gm_iret C hr rfl dX7_add_33 hf
  · have hf := gm_if _ c1 hf
    refine gm_iconst (v := 0) C dX7_add_10 (by decide) ?_
    exact gm_iret C hr rfl dX7_add_11 hf
theorem dX10_feed_0 : decode cX10_feed 0 = .ok (.iload_n 1, 1) := by decide +kernel
theorem dX10_feed_1 : decode cX10_feed 1 = .ok (.ifCond .lt 10, 3) := by decide +kernel
theorem dX10_feed_4 : decode cX10_feed 4 = .ok (.iload_n 1, 1) := by decide +kernel
theorem dX10_feed_5 : decode cX10_feed 5 = .ok (.sipush 255, 3) := by decide +kernel
theorem dX10_feed_8 : decode cX10_feed 8 = .ok (.if_icmp .le 6, 3) := by decide +kernel
theorem dX10_feed_11 : decode cX10_feed 11 = .ok (.ldc 62, 2) := by decide +kernel
theorem dX10_feed_13 : decode cX10_feed 13 = .ok (.ireturn, 1) := by decide +kernel
theorem dX10_feed_14 : decode cX10_feed 14 = .ok (.aload_n 0, 1) := by decide +kernel
theorem dX10_feed_15 : decode cX10_feed 15 = .ok (.getfield 10, 3) := by decide +kernel
theorem dX10_feed_18 : decode cX10_feed 18 = .ok (.getfield 63, 3) := by decide +kernel
theorem dX10_feed_21 : decode cX10_feed 21 = .ok (.iload_n 1, 1) := by decide +kernel
theorem dX10_feed_22 : decode cX10_feed 22 = .ok (.i2c, 1) := by decide +kernel
theorem dX10_feed_23 : decode cX10_feed 23 = .ok (.invokevirtual 67, 3) := by decide +kernel
theorem dX10_feed_26 : decode cX10_feed 26 = .ok (.ifCond .eq 16, 3) := by decide +kernel
theorem dX10_feed_29 : decode cX10_feed 29 = .ok (.aload_n 0, 1) := by decide +kernel
theorem dX10_feed_30 : decode cX10_feed 30 = .ok (.getfield 10, 3) := by decide +kernel
theorem dX10_feed_33 : decode cX10_feed 33 = .ok (.getfield 63, 3) := by decide +kernel
theorem dX10_feed_36 : decode cX10_feed 36 = .ok (.getfield 73, 3) := by decide +kernel
theorem dX10_feed_39 : decode cX10_feed 39 = .ok (.goto 5, 3) := by decide +kernel
theorem dX10_feed_42 : decode cX10_feed 42 = .ok (.ldc 76, 2) := by decide +kernel
theorem dX10_feed_44 : decode cX10_feed 44 = .ok (.ireturn, 1) := by decide +kernel
def Lt_feed (a0 : Int32) (S : gm_M) : Option (Int32 × gm_M) :=
  if a0 < 0 then (
    some ((-1000000002), S)
  ) else (
    if a0 ≤ 255 then (
      gm_bp2 (Tx_add (((a0 : Int32).toUInt32 % 65536).toInt32) S) fun v3 S4 =>
      if v3 = 0 then (
        some ((-1000000004), S4)
      ) else (
        some (S4.1 2 1, S4)
      )
    ) else (
      some ((-1000000002), S)
    )
  )
set_option maxHeartbeats 4000000 in
set_option maxRecDepth 100000 in
theorem Lt_feed_c (l : Launch) (cf : gm_C) (ad : Nat → Nat)    {a0 : Int32} {S : gm_M} {r : Int32} {S'  : gm_M} (hf : Lt_feed a0 S = some (r, S')) : gm_Met l yX10_feed cX10_feed 2 (some .int) 1 21 cf ad gm_sC 106 [.ref (ad 0), .int a0] S (some (.int r)) S' := by
  refine gm_met (by decide +kernel) (Nat.le_of_ble_eq_true rfl) ?_
  intro p e s m args below meth c C hr
  have C : gm_F p s m args meth c cf ad 106 cX10_feed 2 RX10 := C
  refine gm_lve (lv' := [(0, .ref (ad 0)), (1, .int a0)]) rfl ?_
  unfold Lt_feed at hf
  refine gm_iload_n C dX10_feed_0 rfl 1 rfl ?_
  refine gm_if_lt C 11 dX10_feed_1 (by decide) (fun c1 => ?_) (fun c1 => ?_)
  · have hf := gm_it _ c1 hf
    refine gm_ldc (v := (-1000000002)) C wl_360 dX10_feed_11 ?_
    exact gm_iret C hr rfl dX10_feed_13 hf
  · have hf := gm_if _ c1 hf
    refine gm_iload_n C dX10_feed_4 rfl 1 rfl ?_
    refine gm_sipush (v := 255) C dX10_feed_5 (by decide) ?_
    refine gm_icmp_le C 14 dX10_feed_8 (by decide) (fun c2 => ?_) (fun c2 => ?_)
    · have hf := gm_it _ c2 hf
      refine gm_aload_n C dX10_feed_14 rfl 0 rfl ?_
      refine gm_getr (j := 1) (u := 1) C (Nat.le_of_ble_eq_true rfl) rfl kc_10 (k := 0) rfl (by decide) rfl rfl wl_328 dX10_feed_15 ?_
      refine gm_getr (j := 1) (u := 2) C (Nat.le_of_ble_eq_true rfl) rfl kc_5 (k := 0) rfl (by decide) rfl rfl wl_150 dX10_feed_18 ?_
      refine gm_iload_n C dX10_feed_21 rfl 1 rfl ?_
      refine gm_i2c C dX10_feed_22 rfl ?_
      obtain ⟨v3, S4, eS4, hf⟩ := gm_bp2_s hf
      refine gm_callVi (As := [.int (((a0 : Int32).toUInt32 % 65536).toInt32)]) C (Tx_add_c l cf ad eS4) (Nat.le_of_ble_eq_true rfl) rfl kc_7 wy_Tx_add rfl wl_361 rfl ⟨(Nat.le_of_ble_eq_true rfl), (Nat.le_of_ble_eq_true rfl)⟩ rfl (Nat.le_of_ble_eq_true rfl) dX10_feed_23 ?_
      refine gm_if_eq C 42 dX10_feed_26 (by decide) (fun c5 => ?_) (fun c5 => ?_)
      · have hf := gm_it _ c5 hf
        refine gm_ldc (v := (-1000000004)) C wl_365 dX10_feed_42 ?_
        exact gm_iret C hr rfl dX10_feed_44 hf
      · have hf := gm_if _ c5 hf
        refine gm_aload_n C dX10_feed_29 rfl 0 rfl ?_
        refine gm_getr (j := 1) (u := 1) C (Nat.le_of_ble_eq_true rfl) rfl kc_10 (k := 0) rfl (by decide) rfl rfl wl_328 dX10_feed_30 ?_
        refine gm_getr (j := 1) (u := 2) C (Nat.le_of_ble_eq_true rfl) rfl kc_5 (k := 0) rfl (by decide) rfl rfl wl_150 dX10_feed_33 ?_
        refine gm_geti C (Nat.le_of_ble_eq_true rfl) rfl kc_7 (k := 1) rfl (by decide) rfl wl_90 dX10_feed_36 ?_
        refine gm_goto C 44 dX10_feed_39 (by decide) ?_
        exact gm_iret C hr rfl dX10_feed_44 hf
    · have hf := gm_if _ c2 hf
      refine gm_ldc (v := (-1000000002)) C wl_360 dX10_feed_11 ?_
      exact gm_iret C hr rfl dX10_feed_13 hf
theorem dX9_clear_0 : decode cX9_clear 0 = .ok (.aload_n 0, 1) := by decide +kernel
theorem dX9_clear_1 : decode cX9_clear 1 = .ok (.iconst 0, 1) := by decide +kernel
theorem dX9_clear_2 : decode cX9_clear 2 = .ok (.putfield 21, 3) := by decide +kernel
theorem dX9_clear_5 : decode cX9_clear 5 = .ok (.aload_n 0, 1) := by decide +kernel
theorem dX9_clear_6 : decode cX9_clear 6 = .ok (.iconst 0, 1) := by decide +kernel
theorem dX9_clear_7 : decode cX9_clear 7 = .ok (.putfield 25, 3) := by decide +kernel
theorem dX9_clear_10 : decode cX9_clear 10 = .ok (.aload_n 0, 1) := by decide +kernel
theorem dX9_clear_11 : decode cX9_clear 11 = .ok (.iconst 0, 1) := by decide +kernel
theorem dX9_clear_12 : decode cX9_clear 12 = .ok (.putfield 28, 3) := by decide +kernel
theorem dX9_clear_15 : decode cX9_clear 15 = .ok (.aload_n 0, 1) := by decide +kernel
theorem dX9_clear_16 : decode cX9_clear 16 = .ok (.iconst 0, 1) := by decide +kernel
theorem dX9_clear_17 : decode cX9_clear 17 = .ok (.putfield 31, 3) := by decide +kernel
theorem dX9_clear_20 : decode cX9_clear 20 = .ok (.aload_n 0, 1) := by decide +kernel
theorem dX9_clear_21 : decode cX9_clear 21 = .ok (.iconst 0, 1) := by decide +kernel
theorem dX9_clear_22 : decode cX9_clear 22 = .ok (.putfield 34, 3) := by decide +kernel
theorem dX9_clear_25 : decode cX9_clear 25 = .ok (.aload_n 0, 1) := by decide +kernel
theorem dX9_clear_26 : decode cX9_clear 26 = .ok (.iconst 0, 1) := by decide +kernel
theorem dX9_clear_27 : decode cX9_clear 27 = .ok (.putfield 37, 3) := by decide +kernel
theorem dX9_clear_30 : decode cX9_clear 30 = .ok (.return_, 1) := by decide +kernel
def Tr_clear (t : Nat) (S : gm_M) : Option gm_M :=
  gm_lt (α := gm_M) (gm_ui S t 3 0) fun S1 =>
  gm_lt (α := gm_M) (gm_ui S1 t 4 0) fun S2 =>
  gm_lt (α := gm_M) (gm_ui S2 t 5 0) fun S3 =>
  gm_lt (α := gm_M) (gm_ui S3 t 6 0) fun S4 =>
  gm_lt (α := gm_M) (gm_ui S4 t 7 0) fun S5 =>
  gm_lt (α := gm_M) (gm_ui S5 t 8 0) fun S6 =>
  some S6
set_option maxHeartbeats 4000000 in
set_option maxRecDepth 100000 in
theorem Tr_clear_c (l : Launch) (cf : gm_C) (ad : Nat → Nat)  {t : Nat} (ht : gm_isTr t)  {S : gm_M}  {S'  : gm_M} (hf : Tr_clear t S = some S') : gm_Met l yX9_clear cX9_clear 1 none 0 0 cf ad gm_sC 106 [.ref (ad t)] S none S' := by
  refine gm_met (by decide +kernel) (Nat.le_of_ble_eq_true rfl) ?_
  intro p e s m args below meth c C hr
  have C : gm_F p s m args meth c cf ad 106 cX9_clear 1 RX9 := C
  refine gm_lve (lv' := [(0, .ref (ad t))]) rfl ?_
  unfold Tr_clear at hf
  refine gm_aload_n C dX9_clear_0 rfl 0 rfl ?_
  refine gm_iconst (v := 0) C dX9_clear_1 (by decide) ?_
  refine gm_puti C (gm_tr_l0 ht) (gm_tr_k0 ht) kc_9 (k := 3) rfl (by decide) rfl rfl (kc_9.2.2.2.1 3 (by decide)) rfl rfl wl_109 dX9_clear_2 ?_
  obtain ⟨S1, eS1, hf⟩ := gm_lt_s hf
  refine gm_topm eS1 ?_
  refine gm_aload_n C dX9_clear_5 rfl 0 rfl ?_
  refine gm_iconst (v := 0) C dX9_clear_6 (by decide) ?_
  refine gm_puti C (gm_tr_l0 ht) (gm_tr_k0 ht) kc_9 (k := 4) rfl (by decide) rfl rfl (kc_9.2.2.2.1 4 (by decide)) rfl rfl wl_113 dX9_clear_7 ?_
  obtain ⟨S2, eS2, hf⟩ := gm_lt_s hf
  refine gm_topm eS2 ?_
  refine gm_aload_n C dX9_clear_10 rfl 0 rfl ?_
  refine gm_iconst (v := 0) C dX9_clear_11 (by decide) ?_
  refine gm_puti C (gm_tr_l0 ht) (gm_tr_k0 ht) kc_9 (k := 5) rfl (by decide) rfl rfl (kc_9.2.2.2.1 5 (by decide)) rfl rfl wl_117 dX9_clear_12 ?_
  obtain ⟨S3, eS3, hf⟩ := gm_lt_s hf
  refine gm_topm eS3 ?_
  refine gm_aload_n C dX9_clear_15 rfl 0 rfl ?_
  refine gm_iconst (v := 0) C dX9_clear_16 (by decide) ?_
  refine gm_puti C (gm_tr_l0 ht) (gm_tr_k0 ht) kc_9 (k := 6) rfl (by decide) rfl rfl (kc_9.2.2.2.1 6 (by decide)) rfl rfl wl_119 dX9_clear_17 ?_
  obtain ⟨S4, eS4, hf⟩ := gm_lt_s hf
  refine gm_topm eS4 ?_
  refine gm_aload_n C dX9_clear_20 rfl 0 rfl ?_
  refine gm_iconst (v := 0) C dX9_clear_21 (by decide) ?_
  refine gm_puti C (gm_tr_l0 ht) (gm_tr_k0 ht) kc_9 (k := 7) rfl (by decide) rfl rfl (kc_9.2.2.2.1 7 (by decide)) rfl rfl wl_123 dX9_clear_22 ?_
  obtain ⟨S5, eS5, hf⟩ := gm_lt_s hf
  refine gm_topm eS5 ?_
  refine gm_aload_n C dX9_clear_25 rfl 0 rfl ?_
  refine gm_iconst (v := 0) C dX9_clear_26 (by decide) ?_
  refine gm_puti C (gm_tr_l0 ht) (gm_tr_k0 ht) kc_9 (k := 8) rfl (by decide) rfl rfl (kc_9.2.2.2.1 8 (by decide)) rfl rfl wl_126 dX9_clear_27 ?_
  obtain ⟨S6, eS6, hf⟩ := gm_lt_s hf
  refine gm_topm eS6 ?_
  exact gm_vret C hr dX9_clear_30 hf
theorem dX7_letterAt_0 : decode cX7_letterAt 0 = .ok (.iload_n 1, 1) := by decide +kernel
theorem dX7_letterAt_1 : decode cX7_letterAt 1 = .ok (.ifCond .lt 20, 3) := by decide +kernel
theorem dX7_letterAt_4 : decode cX7_letterAt 4 = .ok (.iload_n 1, 1) := by decide +kernel
theorem dX7_letterAt_5 : decode cX7_letterAt 5 = .ok (.aload_n 0, 1) := by decide +kernel
theorem dX7_letterAt_6 : decode cX7_letterAt 6 = .ok (.getfield 15, 3) := by decide +kernel
theorem dX7_letterAt_9 : decode cX7_letterAt 9 = .ok (.if_icmp .ge 12, 3) := by decide +kernel
theorem dX7_letterAt_12 : decode cX7_letterAt 12 = .ok (.aload_n 0, 1) := by decide +kernel
theorem dX7_letterAt_13 : decode cX7_letterAt 13 = .ok (.getfield 9, 3) := by decide +kernel
theorem dX7_letterAt_16 : decode cX7_letterAt 16 = .ok (.iload_n 1, 1) := by decide +kernel
theorem dX7_letterAt_17 : decode cX7_letterAt 17 = .ok (.caload, 1) := by decide +kernel
theorem dX7_letterAt_18 : decode cX7_letterAt 18 = .ok (.goto 4, 3) := by decide +kernel
theorem dX7_letterAt_21 : decode cX7_letterAt 21 = .ok (.iconst 0, 1) := by decide +kernel
theorem dX7_letterAt_22 : decode cX7_letterAt 22 = .ok (.ireturn, 1) := by decide +kernel
def Tx_letterAt (a0 : Int32) (S : gm_M) : Option Int32 :=
  if a0 < 0 then (
    some (0)
  ) else (
    if S.1 2 1 ≤ a0 then (
      some (0)
    ) else (
      gm_ck (a0) 240 <|
      gm_lt (α := Int32) (S.1 3 a0.toNatClampNeg) fun x5 =>
      if vp_nar .char x5 = x5 then (some x5) else none
    )
  )
set_option maxHeartbeats 4000000 in
set_option maxRecDepth 100000 in
theorem Tx_letterAt_c (l : Launch) (cf : gm_C) (ad : Nat → Nat)    {a0 : Int32} {S : gm_M} {r : Int32}  (hf : Tx_letterAt a0 S = some r) : gm_Met l yX7_letterAt cX7_letterAt 2 (some .char) 0 0 cf ad gm_sC 106 [.ref (ad 2), .int a0] S (some (.int r)) S := by
  refine gm_met (by decide +kernel) (Nat.le_of_ble_eq_true rfl) ?_
  intro p e s m args below meth c C hr
  have C : gm_F p s m args meth c cf ad 106 cX7_letterAt 2 RX7 := C
  refine gm_lve (lv' := [(0, .ref (ad 2)), (1, .int a0)]) rfl ?_
  unfold Tx_letterAt at hf
  refine gm_iload_n C dX7_letterAt_0 rfl 1 rfl ?_
  refine gm_if_lt C 21 dX7_letterAt_1 (by decide) (fun c1 => ?_) (fun c1 => ?_)
  · have hf := gm_it _ c1 hf
    refine gm_iconst (v := 0) C dX7_letterAt_21 (by decide) ?_
    exact gm_iretK C hr rfl dX7_letterAt_22 hf
  · have hf := gm_if _ c1 hf
    refine gm_iload_n C dX7_letterAt_4 rfl 1 rfl ?_
    refine gm_aload_n C dX7_letterAt_5 rfl 0 rfl ?_
    refine gm_geti C (Nat.le_of_ble_eq_true rfl) rfl kc_7 (k := 1) rfl (by decide) rfl wl_89 dX7_letterAt_6 ?_
    refine gm_icmp_ge C 21 dX7_letterAt_9 (by decide) (fun c2 => ?_) (fun c2 => ?_)
    · have hf := gm_it _ c2 hf
      refine gm_iconst (v := 0) C dX7_letterAt_21 (by decide) ?_
      exact gm_iretK C hr rfl dX7_letterAt_22 hf
    · have hf := gm_if _ c2 hf
      refine gm_aload_n C dX7_letterAt_12 rfl 0 rfl ?_
      refine gm_getr (j := 1) (u := 3) C (Nat.le_of_ble_eq_true rfl) rfl kc_7 (k := 0) rfl (by decide) rfl rfl wl_88 dX7_letterAt_13 ?_
      refine gm_iload_n C dX7_letterAt_16 rfl 1 rfl ?_
      obtain ⟨h3, hf⟩ := gm_ck_s hf
      refine gm_cald C (Nat.le_of_ble_eq_true rfl) rfl rfl h3 dX7_letterAt_17 ?_
      refine gm_goto C 22 dX7_letterAt_18 (by decide) ?_
      obtain ⟨x5, ex5, hf⟩ := gm_lt_s hf
      refine gm_topi ex5 ?_
      obtain ⟨h4, hf⟩ := gm_in _ hf
      exact gm_iretK C hr (gm_zc h4) dX7_letterAt_22 hf
theorem dX5_skipBlanks_0 : decode cX5_skipBlanks 0 = .ok (.iconst 0, 1) := by decide +kernel
theorem dX5_skipBlanks_1 : decode cX5_skipBlanks 1 = .ok (.istore_n 1, 1) := by decide +kernel
theorem dX5_skipBlanks_2 : decode cX5_skipBlanks 2 = .ok (.iload_n 1, 1) := by decide +kernel
theorem dX5_skipBlanks_3 : decode cX5_skipBlanks 3 = .ok (.sipush 240, 3) := by decide +kernel
theorem dX5_skipBlanks_6 : decode cX5_skipBlanks 6 = .ok (.if_icmp .ge 35, 3) := by decide +kernel
theorem dX5_skipBlanks_9 : decode cX5_skipBlanks 9 = .ok (.aload_n 0, 1) := by decide +kernel
theorem dX5_skipBlanks_10 : decode cX5_skipBlanks 10 = .ok (.getfield 12, 3) := by decide +kernel
theorem dX5_skipBlanks_13 : decode cX5_skipBlanks 13 = .ok (.aload_n 0, 1) := by decide +kernel
theorem dX5_skipBlanks_14 : decode cX5_skipBlanks 14 = .ok (.getfield 28, 3) := by decide +kernel
theorem dX5_skipBlanks_17 : decode cX5_skipBlanks 17 = .ok (.invokevirtual 51, 3) := by decide +kernel
theorem dX5_skipBlanks_20 : decode cX5_skipBlanks 20 = .ok (.bipush 32, 2) := by decide +kernel
theorem dX5_skipBlanks_22 : decode cX5_skipBlanks 22 = .ok (.if_icmp .ne 19, 3) := by decide +kernel
theorem dX5_skipBlanks_25 : decode cX5_skipBlanks 25 = .ok (.aload_n 0, 1) := by decide +kernel
theorem dX5_skipBlanks_26 : decode cX5_skipBlanks 26 = .ok (.dup, 1) := by decide +kernel
theorem dX5_skipBlanks_27 : decode cX5_skipBlanks 27 = .ok (.getfield 28, 3) := by decide +kernel
theorem dX5_skipBlanks_30 : decode cX5_skipBlanks 30 = .ok (.iconst 1, 1) := by decide +kernel
theorem dX5_skipBlanks_31 : decode cX5_skipBlanks 31 = .ok (.iadd, 1) := by decide +kernel
theorem dX5_skipBlanks_32 : decode cX5_skipBlanks 32 = .ok (.putfield 28, 3) := by decide +kernel
theorem dX5_skipBlanks_35 : decode cX5_skipBlanks 35 = .ok (.iinc 1 1, 3) := by decide +kernel
theorem dX5_skipBlanks_38 : decode cX5_skipBlanks 38 = .ok (.goto (-36), 3) := by decide +kernel
theorem dX5_skipBlanks_41 : decode cX5_skipBlanks 41 = .ok (.return_, 1) := by decide +kernel
def Rd_skipBlanks_L2_b  (rec : Int32 → gm_M → Option (gm_M)) (y1 : Int32) (S2 : gm_M) : Option (gm_M) :=
  if (240 : Int32) ≤ y1 then (
    some (S2)
  ) else (
    gm_bp1 (Tx_letterAt (S2.1 1 2) S2) fun v5 =>
    if v5 = 32 then (
      gm_lt (α := gm_M) (gm_ui S2 1 2 ((S2.1 1 2) + 1)) fun S7 =>
      gm_lt (α := Int32) (y1 + 1) fun x8 =>
      rec x8 S7
    ) else (
      some (S2)
    )
  )
def Rd_skipBlanks_L2  : Nat → Int32 → gm_M → Option (gm_M)
  | 0 => fun _ _ => none
  | n + 1 => Rd_skipBlanks_L2_b  (Rd_skipBlanks_L2  n)
def Rd_skipBlanks (fl : Nat) (S : gm_M) : Option gm_M :=
  gm_bp1 (Rd_skipBlanks_L2  fl 0 S) fun S3 =>
  some S3
set_option maxHeartbeats 4000000 in
set_option maxRecDepth 100000 in
theorem Rd_skipBlanks_c (l : Launch) (cf : gm_C) (ad : Nat → Nat) {fl : Nat}    {S : gm_M}  {S'  : gm_M} (hf : Rd_skipBlanks fl S = some S') : gm_Met l yX5_skipBlanks cX5_skipBlanks 2 none 1 21 cf ad gm_sC 106 [.ref (ad 1)] S none S' := by
  refine gm_met (by decide +kernel) (Nat.le_of_ble_eq_true rfl) ?_
  intro p e s m args below meth c C hr
  have C : gm_F p s m args meth c cf ad 106 cX5_skipBlanks 2 RX5 := C
  refine gm_lve (lv' := [(0, .ref (ad 1))]) rfl ?_
  unfold Rd_skipBlanks at hf
  refine gm_iconst (v := 0) C dX5_skipBlanks_0 (by decide) ?_
  refine gm_istore_n (lv' := [(1, .int 0), (0, .ref (ad 1))]) C dX5_skipBlanks_1 rfl (by decide) rfl ?_
  have L2 : ∀ (n : Nat) (y1 : Int32) (S2 : gm_M) (S3 : gm_M), Rd_skipBlanks_L2  n y1 S2 = some (S3) → gm_G p l e { frames := 1, cells := 0, slots := 0, locals := 21 } s m args below meth c (MQ below (gm_Q cf ad gm_sC 106 none S') args s 0 0 (gm_A ad 106)) cf ad gm_sC 106 2 S3 41 [] [] → gm_G p l e { frames := 1, cells := 0, slots := 0, locals := 21 } s m args below meth c (MQ below (gm_Q cf ad gm_sC 106 none S') args s 0 0 (gm_A ad 106)) cf ad gm_sC 106 2 S2 2 [(0, .ref (ad 1)), (1, .int y1)] [] := by
    intro n
    induction n with
    | zero => intro y1 S2 S3 hf K; cases (show (none : Option _) = some _ from hf)
    | succ n ih =>
      intro y1 S2 S3 hf K
      have hf : Rd_skipBlanks_L2_b  (Rd_skipBlanks_L2  n) y1 S2 = some (S3) := hf
      unfold Rd_skipBlanks_L2_b at hf
      refine gm_iload_n C dX5_skipBlanks_2 rfl 1 rfl ?_
      refine gm_sipush (v := 240) C dX5_skipBlanks_3 (by decide) ?_
      refine gm_icmp_ge C 41 dX5_skipBlanks_6 (by decide) (fun c4 => ?_) (fun c4 => ?_)
      · have hf := gm_it _ c4 hf
        cases hf
        exact gm_lvp [] rfl K
      · have hf := gm_if _ c4 hf
        refine gm_aload_n C dX5_skipBlanks_9 rfl 0 rfl ?_
        refine gm_getr (j := 1) (u := 2) C (Nat.le_of_ble_eq_true rfl) rfl kc_5 (k := 0) rfl (by decide) rfl rfl wl_149 dX5_skipBlanks_10 ?_
        refine gm_aload_n C dX5_skipBlanks_13 rfl 0 rfl ?_
        refine gm_geti C (Nat.le_of_ble_eq_true rfl) rfl kc_5 (k := 2) rfl (by decide) rfl wl_153 dX5_skipBlanks_14 ?_
        obtain ⟨v5, ev5, hf⟩ := gm_bp1_s hf
        refine gm_callVi (As := [.int (S2.1 1 2)]) C (Tx_letterAt_c l cf ad ev5) (Nat.le_of_ble_eq_true rfl) rfl kc_7 wy_Tx_letterAt rfl wl_382 rfl ⟨(Nat.le_of_ble_eq_true rfl), (Nat.le_of_ble_eq_true rfl)⟩ rfl (Nat.le_of_ble_eq_true rfl) dX5_skipBlanks_17 ?_
        refine gm_bipush (v := 32) C dX5_skipBlanks_20 (by decide) ?_
        refine gm_icmp_ne C 41 dX5_skipBlanks_22 (by decide) (fun c6 => ?_) (fun c6 => ?_)
        · have hf := gm_if _ c6 hf
          cases hf
          exact gm_lvp [] rfl K
        · have hf := gm_it _ c6 hf
          refine gm_aload_n C dX5_skipBlanks_25 rfl 0 rfl ?_
          refine gm_dup C dX5_skipBlanks_26 rfl ?_
          refine gm_geti C (Nat.le_of_ble_eq_true rfl) rfl kc_5 (k := 2) rfl (by decide) rfl wl_153 dX5_skipBlanks_27 ?_
          refine gm_iconst (v := 1) C dX5_skipBlanks_30 (by decide) ?_
          refine gm_iadd C dX5_skipBlanks_31 ?_
          refine gm_puti C (Nat.le_of_ble_eq_true rfl) rfl kc_5 (k := 2) rfl (by decide) rfl rfl (kc_5.2.2.2.1 2 (by decide)) rfl rfl wl_153 dX5_skipBlanks_32 ?_
          obtain ⟨S7, eS7, hf⟩ := gm_lt_s hf
          refine gm_topm eS7 ?_
          obtain ⟨x8, ex8, hf⟩ := gm_lt_s hf
          refine gm_iinc (v := x8) (lv' := [(1, .int x8), (0, .ref (ad 1))]) (j := 1) C dX5_skipBlanks_35 rfl (by rw [ex8]; rfl) (by decide) rfl ?_
          refine gm_goto C 2 dX5_skipBlanks_38 (by decide) ?_
          exact gm_lvp [1, 0] rfl (ih _ _ _ hf K)
  obtain ⟨S3, hx, hf⟩ := gm_bp1_s hf
  refine gm_lvp [1, 0] rfl (L2 fl _ _ _ hx ?_)
  exact gm_vret C hr dX5_skipBlanks_41 hf
theorem dX5_mayStand_0 : decode cX5_mayStand 0 = .ok (.aload_n 0, 1) := by decide +kernel
theorem dX5_mayStand_1 : decode cX5_mayStand 1 = .ok (.getfield 21, 3) := by decide +kernel
theorem dX5_mayStand_4 : decode cX5_mayStand 4 = .ok (.getfield 84, 3) := by decide +kernel
theorem dX5_mayStand_7 : decode cX5_mayStand 7 = .ok (.ifCond .ne 15, 3) := by decide +kernel
theorem dX5_mayStand_10 : decode cX5_mayStand 10 = .ok (.iload_n 1, 1) := by decide +kernel
theorem dX5_mayStand_11 : decode cX5_mayStand 11 = .ok (.bipush 100, 2) := by decide +kernel
theorem dX5_mayStand_13 : decode cX5_mayStand 13 = .ok (.if_icmp .ne 7, 3) := by decide +kernel
theorem dX5_mayStand_16 : decode cX5_mayStand 16 = .ok (.iconst 1, 1) := by decide +kernel
theorem dX5_mayStand_17 : decode cX5_mayStand 17 = .ok (.goto 4, 3) := by decide +kernel
theorem dX5_mayStand_20 : decode cX5_mayStand 20 = .ok (.iconst 0, 1) := by decide +kernel
theorem dX5_mayStand_21 : decode cX5_mayStand 21 = .ok (.ireturn, 1) := by decide +kernel
theorem dX5_mayStand_22 : decode cX5_mayStand 22 = .ok (.iload_n 1, 1) := by decide +kernel
theorem dX5_mayStand_23 : decode cX5_mayStand 23 = .ok (.bipush 100, 2) := by decide +kernel
theorem dX5_mayStand_25 : decode cX5_mayStand 25 = .ok (.if_icmp .eq 27, 3) := by decide +kernel
theorem dX5_mayStand_28 : decode cX5_mayStand 28 = .ok (.iload_n 1, 1) := by decide +kernel
theorem dX5_mayStand_29 : decode cX5_mayStand 29 = .ok (.bipush 109, 2) := by decide +kernel
theorem dX5_mayStand_31 : decode cX5_mayStand 31 = .ok (.if_icmp .eq 21, 3) := by decide +kernel
theorem dX5_mayStand_34 : decode cX5_mayStand 34 = .ok (.iload_n 1, 1) := by decide +kernel
theorem dX5_mayStand_35 : decode cX5_mayStand 35 = .ok (.bipush 114, 2) := by decide +kernel
theorem dX5_mayStand_37 : decode cX5_mayStand 37 = .ok (.if_icmp .eq 15, 3) := by decide +kernel
theorem dX5_mayStand_40 : decode cX5_mayStand 40 = .ok (.iload_n 1, 1) := by decide +kernel
theorem dX5_mayStand_41 : decode cX5_mayStand 41 = .ok (.bipush 110, 2) := by decide +kernel
theorem dX5_mayStand_43 : decode cX5_mayStand 43 = .ok (.if_icmp .eq 9, 3) := by decide +kernel
theorem dX5_mayStand_46 : decode cX5_mayStand 46 = .ok (.iload_n 1, 1) := by decide +kernel
theorem dX5_mayStand_47 : decode cX5_mayStand 47 = .ok (.bipush 112, 2) := by decide +kernel
theorem dX5_mayStand_49 : decode cX5_mayStand 49 = .ok (.if_icmp .ne 7, 3) := by decide +kernel
theorem dX5_mayStand_52 : decode cX5_mayStand 52 = .ok (.iconst 1, 1) := by decide +kernel
theorem dX5_mayStand_53 : decode cX5_mayStand 53 = .ok (.goto 4, 3) := by decide +kernel
theorem dX5_mayStand_56 : decode cX5_mayStand 56 = .ok (.iconst 0, 1) := by decide +kernel
theorem dX5_mayStand_57 : decode cX5_mayStand 57 = .ok (.ireturn, 1) := by decide +kernel
def Rd_mayStand (a0 : Int32) (S : gm_M) : Option Int32 :=
  if S.1 4 3 = 0 then (
    if a0 = 100 then (
      some (1)
    ) else (
      some (0)
    )
  ) else (
    if a0 = 100 then (
      some (1)
    ) else (
      if a0 = 109 then (
        some (1)
      ) else (
        if a0 = 114 then (
          some (1)
        ) else (
          if a0 = 110 then (
            some (1)
          ) else (
            if a0 = 112 then (
              some (1)
            ) else (
              some (0)
            )
          )
        )
      )
    )
  )
set_option maxHeartbeats 4000000 in
set_option maxRecDepth 100000 in
theorem Rd_mayStand_c (l : Launch) (cf : gm_C) (ad : Nat → Nat)    {a0 : Int32} {S : gm_M} {r : Int32}  (hf : Rd_mayStand a0 S = some r) : gm_Met l yX5_mayStand cX5_mayStand 2 (some .boolean) 0 0 cf ad gm_sC 106 [.ref (ad 1), .int a0] S (some (.int r)) S := by
  refine gm_met (by decide +kernel) (Nat.le_of_ble_eq_true rfl) ?_
  intro p e s m args below meth c C hr
  have C : gm_F p s m args meth c cf ad 106 cX5_mayStand 2 RX5 := C
  refine gm_lve (lv' := [(0, .ref (ad 1)), (1, .int a0)]) rfl ?_
  unfold Rd_mayStand at hf
  refine gm_aload_n C dX5_mayStand_0 rfl 0 rfl ?_
  refine gm_getr (j := 3) (u := 4) C (Nat.le_of_ble_eq_true rfl) rfl kc_5 (k := 1) rfl (by decide) rfl rfl wl_151 dX5_mayStand_1 ?_
  refine gm_geti C (Nat.le_of_ble_eq_true rfl) rfl kc_9 (k := 3) rfl (by decide) rfl wl_112 dX5_mayStand_4 ?_
  refine gm_if_ne C 22 dX5_mayStand_7 (by decide) (fun c1 => ?_) (fun c1 => ?_)
  · have hf := gm_if _ c1 hf
    refine gm_iload_n C dX5_mayStand_22 rfl 1 rfl ?_
    refine gm_bipush (v := 100) C dX5_mayStand_23 (by decide) ?_
    refine gm_icmp_eq C 52 dX5_mayStand_25 (by decide) (fun c2 => ?_) (fun c2 => ?_)
    · have hf := gm_it _ c2 hf
      refine gm_iconst (v := 1) C dX5_mayStand_52 (by decide) ?_
      refine gm_goto C 57 dX5_mayStand_53 (by decide) ?_
      exact gm_iretK C hr rfl dX5_mayStand_57 hf
    · have hf := gm_if _ c2 hf
      refine gm_iload_n C dX5_mayStand_28 rfl 1 rfl ?_
      refine gm_bipush (v := 109) C dX5_mayStand_29 (by decide) ?_
      refine gm_icmp_eq C 52 dX5_mayStand_31 (by decide) (fun c3 => ?_) (fun c3 => ?_)
      · have hf := gm_it _ c3 hf
        refine gm_iconst (v := 1) C dX5_mayStand_52 (by decide) ?_
        refine gm_goto C 57 dX5_mayStand_53 (by decide) ?_
        exact gm_iretK C hr rfl dX5_mayStand_57 hf
      · have hf := gm_if _ c3 hf
        refine gm_iload_n C dX5_mayStand_34 rfl 1 rfl ?_
        refine gm_bipush (v := 114) C dX5_mayStand_35 (by decide) ?_
        refine gm_icmp_eq C 52 dX5_mayStand_37 (by decide) (fun c4 => ?_) (fun c4 => ?_)
        · have hf := gm_it _ c4 hf
          refine gm_iconst (v := 1) C dX5_mayStand_52 (by decide) ?_
          refine gm_goto C 57 dX5_mayStand_53 (by decide) ?_
          exact gm_iretK C hr rfl dX5_mayStand_57 hf
        · have hf := gm_if _ c4 hf
          refine gm_iload_n C dX5_mayStand_40 rfl 1 rfl ?_
          refine gm_bipush (v := 110) C dX5_mayStand_41 (by decide) ?_
          refine gm_icmp_eq C 52 dX5_mayStand_43 (by decide) (fun c5 => ?_) (fun c5 => ?_)
          · have hf := gm_it _ c5 hf
            refine gm_iconst (v := 1) C dX5_mayStand_52 (by decide) ?_
            refine gm_goto C 57 dX5_mayStand_53 (by decide) ?_
            exact gm_iretK C hr rfl dX5_mayStand_57 hf
          · have hf := gm_if _ c5 hf
            refine gm_iload_n C dX5_mayStand_46 rfl 1 rfl ?_
            refine gm_bipush (v := 112) C dX5_mayStand_47 (by decide) ?_
            refine gm_icmp_ne C 56 dX5_mayStand_49 (by decide) (fun c6 => ?_) (fun c6 => ?_)
            · have hf := gm_if _ c6 hf
              refine gm_iconst (v := 0) C dX5_mayStand_56 (by decide) ?_
              exact gm_iretK C hr rfl dX5_mayStand_57 hf
            · have hf := gm_it _ c6 hf
              refine gm_iconst (v := 1) C dX5_mayStand_52 (by decide) ?_
              refine gm_goto C 57 dX5_mayStand_53 (by decide) ?_
              exact gm_iretK C hr rfl dX5_mayStand_57 hf
  · have hf := gm_it _ c1 hf
    refine gm_iload_n C dX5_mayStand_10 rfl 1 rfl ?_
    refine gm_bipush (v := 100) C dX5_mayStand_11 (by decide) ?_
    refine gm_icmp_ne C 20 dX5_mayStand_13 (by decide) (fun c7 => ?_) (fun c7 => ?_)
    · have hf := gm_if _ c7 hf
      refine gm_iconst (v := 0) C dX5_mayStand_20 (by decide) ?_
      exact gm_iretK C hr rfl dX5_mayStand_21 hf
    · have hf := gm_it _ c7 hf
      refine gm_iconst (v := 1) C dX5_mayStand_16 (by decide) ?_
      refine gm_goto C 21 dX5_mayStand_17 (by decide) ?_
      exact gm_iretK C hr rfl dX5_mayStand_21 hf
theorem dX5_setFault_0 : decode cX5_setFault 0 = .ok (.aload_n 0, 1) := by decide +kernel
theorem dX5_setFault_1 : decode cX5_setFault 1 = .ok (.getfield 32, 3) := by decide +kernel
theorem dX5_setFault_4 : decode cX5_setFault 4 = .ok (.ifCond .ne 13, 3) := by decide +kernel
theorem dX5_setFault_7 : decode cX5_setFault 7 = .ok (.aload_n 0, 1) := by decide +kernel
theorem dX5_setFault_8 : decode cX5_setFault 8 = .ok (.iload_n 1, 1) := by decide +kernel
theorem dX5_setFault_9 : decode cX5_setFault 9 = .ok (.putfield 32, 3) := by decide +kernel
theorem dX5_setFault_12 : decode cX5_setFault 12 = .ok (.aload_n 0, 1) := by decide +kernel
theorem dX5_setFault_13 : decode cX5_setFault 13 = .ok (.iload_n 2, 1) := by decide +kernel
theorem dX5_setFault_14 : decode cX5_setFault 14 = .ok (.putfield 35, 3) := by decide +kernel
theorem dX5_setFault_17 : decode cX5_setFault 17 = .ok (.return_, 1) := by decide +kernel
def Rd_setFault (a0 : Int32) (a1 : Int32) (S : gm_M) : Option gm_M :=
  if S.1 1 4 = 0 then (
    gm_lt (α := gm_M) (gm_ui S 1 4 a0) fun S2 =>
    gm_lt (α := gm_M) (gm_ui S2 1 5 a1) fun S3 =>
    some S3
  ) else (
    some S
  )
set_option maxHeartbeats 4000000 in
set_option maxRecDepth 100000 in
theorem Rd_setFault_c (l : Launch) (cf : gm_C) (ad : Nat → Nat)    {a0 : Int32} {a1 : Int32} {S : gm_M}  {S'  : gm_M} (hf : Rd_setFault a0 a1 S = some S') : gm_Met l yX5_setFault cX5_setFault 3 none 0 0 cf ad gm_sC 106 [.ref (ad 1), .int a0, .int a1] S none S' := by
  refine gm_met (by decide +kernel) (Nat.le_of_ble_eq_true rfl) ?_
  intro p e s m args below meth c C hr
  have C : gm_F p s m args meth c cf ad 106 cX5_setFault 3 RX5 := C
  refine gm_lve (lv' := [(0, .ref (ad 1)), (1, .int a0), (2, .int a1)]) rfl ?_
  unfold Rd_setFault at hf
  refine gm_aload_n C dX5_setFault_0 rfl 0 rfl ?_
  refine gm_geti C (Nat.le_of_ble_eq_true rfl) rfl kc_5 (k := 4) rfl (by decide) rfl wl_155 dX5_setFault_1 ?_
  refine gm_if_ne C 17 dX5_setFault_4 (by decide) (fun c1 => ?_) (fun c1 => ?_)
  · have hf := gm_if _ c1 hf
    exact gm_vret C hr dX5_setFault_17 hf
  · have hf := gm_it _ c1 hf
    refine gm_aload_n C dX5_setFault_7 rfl 0 rfl ?_
    refine gm_iload_n C dX5_setFault_8 rfl 1 rfl ?_
    refine gm_puti C (Nat.le_of_ble_eq_true rfl) rfl kc_5 (k := 4) rfl (by decide) rfl rfl (kc_5.2.2.2.1 4 (by decide)) rfl rfl wl_155 dX5_setFault_9 ?_
    obtain ⟨S2, eS2, hf⟩ := gm_lt_s hf
    refine gm_topm eS2 ?_
    refine gm_aload_n C dX5_setFault_12 rfl 0 rfl ?_
    refine gm_iload_n C dX5_setFault_13 rfl 2 rfl ?_
    refine gm_puti C (Nat.le_of_ble_eq_true rfl) rfl kc_5 (k := 5) rfl (by decide) rfl rfl (kc_5.2.2.2.1 5 (by decide)) rfl rfl wl_157 dX5_setFault_14 ?_
    obtain ⟨S3, eS3, hf⟩ := gm_lt_s hf
    refine gm_topm eS3 ?_
    exact gm_vret C hr dX5_setFault_17 hf
theorem dX5_isOneTooMany_0 : decode cX5_isOneTooMany 0 = .ok (.iload_n 1, 1) := by decide +kernel
theorem dX5_isOneTooMany_1 : decode cX5_isOneTooMany 1 = .ok (.lookupswitch 98 #[(100, 43), (109, 59), (110, 81), (114, 64)], 43) := by decide +kernel
theorem dX5_isOneTooMany_44 : decode cX5_isOneTooMany 44 = .ok (.aload_n 0, 1) := by decide +kernel
theorem dX5_isOneTooMany_45 : decode cX5_isOneTooMany 45 = .ok (.getfield 21, 3) := by decide +kernel
theorem dX5_isOneTooMany_48 : decode cX5_isOneTooMany 48 = .ok (.getfield 84, 3) := by decide +kernel
theorem dX5_isOneTooMany_51 : decode cX5_isOneTooMany 51 = .ok (.ifCond .eq 7, 3) := by decide +kernel
theorem dX5_isOneTooMany_54 : decode cX5_isOneTooMany 54 = .ok (.iconst 1, 1) := by decide +kernel
theorem dX5_isOneTooMany_55 : decode cX5_isOneTooMany 55 = .ok (.goto 4, 3) := by decide +kernel
theorem dX5_isOneTooMany_58 : decode cX5_isOneTooMany 58 = .ok (.iconst 0, 1) := by decide +kernel
theorem dX5_isOneTooMany_59 : decode cX5_isOneTooMany 59 = .ok (.ireturn, 1) := by decide +kernel
theorem dX5_isOneTooMany_60 : decode cX5_isOneTooMany 60 = .ok (.aload_n 0, 1) := by decide +kernel
theorem dX5_isOneTooMany_61 : decode cX5_isOneTooMany 61 = .ok (.getfield 38, 3) := by decide +kernel
theorem dX5_isOneTooMany_64 : decode cX5_isOneTooMany 64 = .ok (.ireturn, 1) := by decide +kernel
theorem dX5_isOneTooMany_65 : decode cX5_isOneTooMany 65 = .ok (.aload_n 0, 1) := by decide +kernel
theorem dX5_isOneTooMany_66 : decode cX5_isOneTooMany 66 = .ok (.getfield 21, 3) := by decide +kernel
theorem dX5_isOneTooMany_69 : decode cX5_isOneTooMany 69 = .ok (.getfield 87, 3) := by decide +kernel
theorem dX5_isOneTooMany_72 : decode cX5_isOneTooMany 72 = .ok (.iconst 4, 1) := by decide +kernel
theorem dX5_isOneTooMany_73 : decode cX5_isOneTooMany 73 = .ok (.if_icmp .ne 7, 3) := by decide +kernel
theorem dX5_isOneTooMany_76 : decode cX5_isOneTooMany 76 = .ok (.iconst 1, 1) := by decide +kernel
theorem dX5_isOneTooMany_77 : decode cX5_isOneTooMany 77 = .ok (.goto 4, 3) := by decide +kernel
theorem dX5_isOneTooMany_80 : decode cX5_isOneTooMany 80 = .ok (.iconst 0, 1) := by decide +kernel
theorem dX5_isOneTooMany_81 : decode cX5_isOneTooMany 81 = .ok (.ireturn, 1) := by decide +kernel
theorem dX5_isOneTooMany_82 : decode cX5_isOneTooMany 82 = .ok (.aload_n 0, 1) := by decide +kernel
theorem dX5_isOneTooMany_83 : decode cX5_isOneTooMany 83 = .ok (.getfield 21, 3) := by decide +kernel
theorem dX5_isOneTooMany_86 : decode cX5_isOneTooMany 86 = .ok (.getfield 90, 3) := by decide +kernel
theorem dX5_isOneTooMany_89 : decode cX5_isOneTooMany 89 = .ok (.iconst 4, 1) := by decide +kernel
theorem dX5_isOneTooMany_90 : decode cX5_isOneTooMany 90 = .ok (.if_icmp .ne 7, 3) := by decide +kernel
theorem dX5_isOneTooMany_93 : decode cX5_isOneTooMany 93 = .ok (.iconst 1, 1) := by decide +kernel
theorem dX5_isOneTooMany_94 : decode cX5_isOneTooMany 94 = .ok (.goto 4, 3) := by decide +kernel
theorem dX5_isOneTooMany_97 : decode cX5_isOneTooMany 97 = .ok (.iconst 0, 1) := by decide +kernel
theorem dX5_isOneTooMany_98 : decode cX5_isOneTooMany 98 = .ok (.ireturn, 1) := by decide +kernel
theorem dX5_isOneTooMany_99 : decode cX5_isOneTooMany 99 = .ok (.aload_n 0, 1) := by decide +kernel
theorem dX5_isOneTooMany_100 : decode cX5_isOneTooMany 100 = .ok (.getfield 21, 3) := by decide +kernel
theorem dX5_isOneTooMany_103 : decode cX5_isOneTooMany 103 = .ok (.getfield 93, 3) := by decide +kernel
theorem dX5_isOneTooMany_106 : decode cX5_isOneTooMany 106 = .ok (.iconst 5, 1) := by decide +kernel
theorem dX5_isOneTooMany_107 : decode cX5_isOneTooMany 107 = .ok (.if_icmp .ne 7, 3) := by decide +kernel
theorem dX5_isOneTooMany_110 : decode cX5_isOneTooMany 110 = .ok (.iconst 1, 1) := by decide +kernel
theorem dX5_isOneTooMany_111 : decode cX5_isOneTooMany 111 = .ok (.goto 4, 3) := by decide +kernel
theorem dX5_isOneTooMany_114 : decode cX5_isOneTooMany 114 = .ok (.iconst 0, 1) := by decide +kernel
theorem dX5_isOneTooMany_115 : decode cX5_isOneTooMany 115 = .ok (.ireturn, 1) := by decide +kernel
def Rd_isOneTooMany (a0 : Int32) (S : gm_M) : Option Int32 :=
  if a0 = 100 then (
    if S.1 4 3 = 0 then (
      some (0)
    ) else (
      some (1)
    )
  ) else (
  if a0 = 109 then (
    gm_lt (α := Int32) (S.1 1 6) fun x5 =>
    if vp_nar .boolean x5 = x5 then (some x5) else none
  ) else (
  if a0 = 110 then (
    if S.1 4 7 = 4 then (
      some (1)
    ) else (
      some (0)
    )
  ) else (
  if a0 = 114 then (
    if S.1 4 6 = 4 then (
      some (1)
    ) else (
      some (0)
    )
  ) else (
    if S.1 4 8 = 5 then (
      some (1)
    ) else (
      some (0)
    )
  ))))
set_option maxHeartbeats 4000000 in
set_option maxRecDepth 100000 in
theorem Rd_isOneTooMany_c (l : Launch) (cf : gm_C) (ad : Nat → Nat)    {a0 : Int32} {S : gm_M} {r : Int32}  (hf : Rd_isOneTooMany a0 S = some r) : gm_Met l yX5_isOneTooMany cX5_isOneTooMany 2 (some .boolean) 0 0 cf ad gm_sC 106 [.ref (ad 1), .int a0] S (some (.int r)) S := by
  refine gm_met (by decide +kernel) (Nat.le_of_ble_eq_true rfl) ?_
  intro p e s m args below meth c C hr
  have C : gm_F p s m args meth c cf ad 106 cX5_isOneTooMany 2 RX5 := C
  refine gm_lve (lv' := [(0, .ref (ad 1)), (1, .int a0)]) rfl ?_
  unfold Rd_isOneTooMany at hf
  refine gm_iload_n C dX5_isOneTooMany_0 rfl 1 rfl ?_
  by_cases c1 : a0 = 100
  · have hf := gm_it _ c1 hf
    refine gm_lookup (off := 43) C 44 dX5_isOneTooMany_1 rfl (by rw [c1] <;> rfl) (by decide) ?_
    refine gm_aload_n C dX5_isOneTooMany_44 rfl 0 rfl ?_
    refine gm_getr (j := 3) (u := 4) C (Nat.le_of_ble_eq_true rfl) rfl kc_5 (k := 1) rfl (by decide) rfl rfl wl_151 dX5_isOneTooMany_45 ?_
    refine gm_geti C (Nat.le_of_ble_eq_true rfl) rfl kc_9 (k := 3) rfl (by decide) rfl wl_112 dX5_isOneTooMany_48 ?_
    refine gm_if_eq C 58 dX5_isOneTooMany_51 (by decide) (fun c2 => ?_) (fun c2 => ?_)
    · have hf := gm_it _ c2 hf
      refine gm_iconst (v := 0) C dX5_isOneTooMany_58 (by decide) ?_
      exact gm_iretK C hr rfl dX5_isOneTooMany_59 hf
    · have hf := gm_if _ c2 hf
      refine gm_iconst (v := 1) C dX5_isOneTooMany_54 (by decide) ?_
      refine gm_goto C 59 dX5_isOneTooMany_55 (by decide) ?_
      exact gm_iretK C hr rfl dX5_isOneTooMany_59 hf
  · have hf := gm_if _ c1 hf
    by_cases c3 : a0 = 109
    · have hf := gm_it _ c3 hf
      refine gm_lookup (off := 59) C 60 dX5_isOneTooMany_1 rfl (by rw [c3] <;> rfl) (by decide) ?_
      refine gm_aload_n C dX5_isOneTooMany_60 rfl 0 rfl ?_
      refine gm_geti C (Nat.le_of_ble_eq_true rfl) rfl kc_5 (k := 6) rfl (by decide) rfl wl_159 dX5_isOneTooMany_61 ?_
      obtain ⟨x5, ex5, hf⟩ := gm_lt_s hf
      refine gm_topi ex5 ?_
      obtain ⟨h4, hf⟩ := gm_in _ hf
      exact gm_iretK C hr (gm_zb h4) dX5_isOneTooMany_64 hf
    · have hf := gm_if _ c3 hf
      by_cases c6 : a0 = 110
      · have hf := gm_it _ c6 hf
        refine gm_lookup (off := 81) C 82 dX5_isOneTooMany_1 rfl (by rw [c6] <;> rfl) (by decide) ?_
        refine gm_aload_n C dX5_isOneTooMany_82 rfl 0 rfl ?_
        refine gm_getr (j := 3) (u := 4) C (Nat.le_of_ble_eq_true rfl) rfl kc_5 (k := 1) rfl (by decide) rfl rfl wl_151 dX5_isOneTooMany_83 ?_
        refine gm_geti C (Nat.le_of_ble_eq_true rfl) rfl kc_9 (k := 7) rfl (by decide) rfl wl_125 dX5_isOneTooMany_86 ?_
        refine gm_iconst (v := 4) C dX5_isOneTooMany_89 (by decide) ?_
        refine gm_icmp_ne C 97 dX5_isOneTooMany_90 (by decide) (fun c7 => ?_) (fun c7 => ?_)
        · have hf := gm_if _ c7 hf
          refine gm_iconst (v := 0) C dX5_isOneTooMany_97 (by decide) ?_
          exact gm_iretK C hr rfl dX5_isOneTooMany_98 hf
        · have hf := gm_it _ c7 hf
          refine gm_iconst (v := 1) C dX5_isOneTooMany_93 (by decide) ?_
          refine gm_goto C 98 dX5_isOneTooMany_94 (by decide) ?_
          exact gm_iretK C hr rfl dX5_isOneTooMany_98 hf
      · have hf := gm_if _ c6 hf
        by_cases c8 : a0 = 114
        · have hf := gm_it _ c8 hf
          refine gm_lookup (off := 64) C 65 dX5_isOneTooMany_1 rfl (by rw [c8] <;> rfl) (by decide) ?_
          refine gm_aload_n C dX5_isOneTooMany_65 rfl 0 rfl ?_
          refine gm_getr (j := 3) (u := 4) C (Nat.le_of_ble_eq_true rfl) rfl kc_5 (k := 1) rfl (by decide) rfl rfl wl_151 dX5_isOneTooMany_66 ?_
          refine gm_geti C (Nat.le_of_ble_eq_true rfl) rfl kc_9 (k := 6) rfl (by decide) rfl wl_122 dX5_isOneTooMany_69 ?_
          refine gm_iconst (v := 4) C dX5_isOneTooMany_72 (by decide) ?_
          refine gm_icmp_ne C 80 dX5_isOneTooMany_73 (by decide) (fun c9 => ?_) (fun c9 => ?_)
          · have hf := gm_if _ c9 hf
            refine gm_iconst (v := 0) C dX5_isOneTooMany_80 (by decide) ?_
            exact gm_iretK C hr rfl dX5_isOneTooMany_81 hf
          · have hf := gm_it _ c9 hf
            refine gm_iconst (v := 1) C dX5_isOneTooMany_76 (by decide) ?_
            refine gm_goto C 81 dX5_isOneTooMany_77 (by decide) ?_
            exact gm_iretK C hr rfl dX5_isOneTooMany_81 hf
        · have hf := gm_if _ c8 hf
          refine gm_lookup (off := 98) C 99 dX5_isOneTooMany_1 rfl (by show Op.lookupswitch.offset [(100, 43), (109, 59), (110, 81), (114, 64)] 98 _ = 98; rw [lv_osw (a := 100) c1 (by decide), lv_osw (a := 109) c3 (by decide), lv_osw (a := 110) c6 (by decide), lv_osw (a := 114) c8 (by decide)] <;> rfl) (by decide) ?_
          refine gm_aload_n C dX5_isOneTooMany_99 rfl 0 rfl ?_
          refine gm_getr (j := 3) (u := 4) C (Nat.le_of_ble_eq_true rfl) rfl kc_5 (k := 1) rfl (by decide) rfl rfl wl_151 dX5_isOneTooMany_100 ?_
          refine gm_geti C (Nat.le_of_ble_eq_true rfl) rfl kc_9 (k := 8) rfl (by decide) rfl wl_128 dX5_isOneTooMany_103 ?_
          refine gm_iconst (v := 5) C dX5_isOneTooMany_106 (by decide) ?_
          refine gm_icmp_ne C 114 dX5_isOneTooMany_107 (by decide) (fun c10 => ?_) (fun c10 => ?_)
          · have hf := gm_if _ c10 hf
            refine gm_iconst (v := 0) C dX5_isOneTooMany_114 (by decide) ?_
            exact gm_iretK C hr rfl dX5_isOneTooMany_115 hf
          · have hf := gm_it _ c10 hf
            refine gm_iconst (v := 1) C dX5_isOneTooMany_110 (by decide) ?_
            refine gm_goto C 115 dX5_isOneTooMany_111 (by decide) ?_
            exact gm_iretK C hr rfl dX5_isOneTooMany_115 hf
theorem dX5_isFigure_0 : decode cX5_isFigure 0 = .ok (.iload_n 1, 1) := by decide +kernel
theorem dX5_isFigure_1 : decode cX5_isFigure 1 = .ok (.bipush 48, 2) := by decide +kernel
theorem dX5_isFigure_3 : decode cX5_isFigure 3 = .ok (.if_icmp .lt 13, 3) := by decide +kernel
theorem dX5_isFigure_6 : decode cX5_isFigure 6 = .ok (.iload_n 1, 1) := by decide +kernel
theorem dX5_isFigure_7 : decode cX5_isFigure 7 = .ok (.bipush 57, 2) := by decide +kernel
theorem dX5_isFigure_9 : decode cX5_isFigure 9 = .ok (.if_icmp .gt 7, 3) := by decide +kernel
theorem dX5_isFigure_12 : decode cX5_isFigure 12 = .ok (.iconst 1, 1) := by decide +kernel
theorem dX5_isFigure_13 : decode cX5_isFigure 13 = .ok (.goto 4, 3) := by decide +kernel
theorem dX5_isFigure_16 : decode cX5_isFigure 16 = .ok (.iconst 0, 1) := by decide +kernel
theorem dX5_isFigure_17 : decode cX5_isFigure 17 = .ok (.ireturn, 1) := by decide +kernel
def Rd_isFigure (a0 : Int32) : Option Int32 :=
  if a0 < 48 then (
    some (0)
  ) else (
    if (57 : Int32) < a0 then (
      some (0)
    ) else (
      some (1)
    )
  )
set_option maxHeartbeats 4000000 in
set_option maxRecDepth 100000 in
theorem Rd_isFigure_c (l : Launch) (cf : gm_C) (ad : Nat → Nat)    {a0 : Int32} {S : gm_M} {r : Int32}  (hf : Rd_isFigure a0 = some r) : gm_Met l yX5_isFigure cX5_isFigure 2 (some .boolean) 0 0 cf ad gm_sC 106 [.ref (ad 1), .int a0] S (some (.int r)) S := by
  refine gm_met (by decide +kernel) (Nat.le_of_ble_eq_true rfl) ?_
  intro p e s m args below meth c C hr
  have C : gm_F p s m args meth c cf ad 106 cX5_isFigure 2 RX5 := C
  refine gm_lve (lv' := [(0, .ref (ad 1)), (1, .int a0)]) rfl ?_
  unfold Rd_isFigure at hf
  refine gm_iload_n C dX5_isFigure_0 rfl 1 rfl ?_
  refine gm_bipush (v := 48) C dX5_isFigure_1 (by decide) ?_
  refine gm_icmp_lt C 16 dX5_isFigure_3 (by decide) (fun c1 => ?_) (fun c1 => ?_)
  · have hf := gm_it _ c1 hf
    refine gm_iconst (v := 0) C dX5_isFigure_16 (by decide) ?_
    exact gm_iretK C hr rfl dX5_isFigure_17 hf
  · have hf := gm_if _ c1 hf
    refine gm_iload_n C dX5_isFigure_6 rfl 1 rfl ?_
    refine gm_bipush (v := 57) C dX5_isFigure_7 (by decide) ?_
    refine gm_icmp_gt C 16 dX5_isFigure_9 (by decide) (fun c2 => ?_) (fun c2 => ?_)
    · have hf := gm_it _ c2 hf
      refine gm_iconst (v := 0) C dX5_isFigure_16 (by decide) ?_
      exact gm_iretK C hr rfl dX5_isFigure_17 hf
    · have hf := gm_if _ c2 hf
      refine gm_iconst (v := 1) C dX5_isFigure_12 (by decide) ?_
      refine gm_goto C 17 dX5_isFigure_13 (by decide) ?_
      exact gm_iretK C hr rfl dX5_isFigure_17 hf
