theorem dX11_in_0 : decode cX11_in 0 = .ok (.lload_n 0, 1) := by decide +kernel
theorem dX11_in_1 : decode cX11_in 1 = .ok (.lload_n 2, 1) := by decide +kernel
theorem dX11_in_2 : decode cX11_in 2 = .ok (.lcmp, 1) := by decide +kernel
theorem dX11_in_3 : decode cX11_in 3 = .ok (.ifCond .lt 14, 3) := by decide +kernel
theorem dX11_in_6 : decode cX11_in 6 = .ok (.lload_n 0, 1) := by decide +kernel
theorem dX11_in_7 : decode cX11_in 7 = .ok (.lload 4, 2) := by decide +kernel
theorem dX11_in_9 : decode cX11_in 9 = .ok (.lcmp, 1) := by decide +kernel
theorem dX11_in_10 : decode cX11_in 10 = .ok (.ifCond .gt 7, 3) := by decide +kernel
theorem dX11_in_13 : decode cX11_in 13 = .ok (.iconst 1, 1) := by decide +kernel
theorem dX11_in_14 : decode cX11_in 14 = .ok (.goto 4, 3) := by decide +kernel
theorem dX11_in_17 : decode cX11_in 17 = .ok (.iconst 0, 1) := by decide +kernel
theorem dX11_in_18 : decode cX11_in 18 = .ok (.ireturn, 1) := by decide +kernel
def Mo_in (a0 : Int64) (a1 : Int64) (a2 : Int64) : Option Int32 :=
  if lg_cmp a0 a1 < 0 then (
    some (0)
  ) else (
    if (0 : Int32) < lg_cmp a0 a2 then (
      some (0)
    ) else (
      some (1)
    )
  )
set_option maxHeartbeats 4000000 in
set_option maxRecDepth 100000 in
theorem Mo_in_c (l : Launch) (cf : gm_C) (ad : Nat → Nat)    {a0 : Int64} {a1 : Int64} {a2 : Int64} {S : gm_M} {r : Int32}  (hf : Mo_in a0 a1 a2 = some r) : gm_Met l yX11_in cX11_in 6 (some .boolean) 0 0 cf ad gm_sM 17 [.long a0, .long a1, .long a2] S (some (.int r)) S := by
  refine gm_met (by decide +kernel) (Nat.le_of_ble_eq_true rfl) ?_
  intro p e s m args below meth c C hr
  have C : gm_F p s m args meth c cf ad 17 cX11_in 6 RX11 := C
  refine gm_lve (lv' := [(0, .long a0), (2, .long a1), (4, .long a2)]) rfl ?_
  unfold Mo_in at hf
  refine gm_lload_n C dX11_in_0 rfl 0 rfl ?_
  refine gm_lload_n C dX11_in_1 rfl 1 rfl ?_
  refine gm_lcmp C dX11_in_2 ?_
  refine gm_if_lt C 17 dX11_in_3 (by decide) (fun c1 => ?_) (fun c1 => ?_)
  · have hf := gm_it _ c1 hf
    refine gm_iconst (v := 0) C dX11_in_17 (by decide) ?_
    exact gm_iretK C hr rfl dX11_in_18 hf
  · have hf := gm_if _ c1 hf
    refine gm_lload_n C dX11_in_6 rfl 0 rfl ?_
    refine gm_lload C dX11_in_7 2 rfl ?_
    refine gm_lcmp C dX11_in_9 ?_
    refine gm_if_gt C 17 dX11_in_10 (by decide) (fun c2 => ?_) (fun c2 => ?_)
    · have hf := gm_it _ c2 hf
      refine gm_iconst (v := 0) C dX11_in_17 (by decide) ?_
      exact gm_iretK C hr rfl dX11_in_18 hf
    · have hf := gm_if _ c2 hf
      refine gm_iconst (v := 1) C dX11_in_13 (by decide) ?_
      refine gm_goto C 18 dX11_in_14 (by decide) ?_
      exact gm_iretK C hr rfl dX11_in_18 hf
theorem dX11_feed_0 : decode cX11_feed 0 = .ok (.iload_n 1, 1) := by decide +kernel
theorem dX11_feed_1 : decode cX11_feed 1 = .ok (.i2l, 1) := by decide +kernel
theorem dX11_feed_2 : decode cX11_feed 2 = .ok (.lconst 0, 1) := by decide +kernel
theorem dX11_feed_3 : decode cX11_feed 3 = .ok (.ldc2_w 94, 3) := by decide +kernel
theorem dX11_feed_6 : decode cX11_feed 6 = .ok (.invokestatic 69, 3) := by decide +kernel
theorem dX11_feed_9 : decode cX11_feed 9 = .ok (.ifCond .ne 6, 3) := by decide +kernel
theorem dX11_feed_12 : decode cX11_feed 12 = .ok (.ldc 96, 2) := by decide +kernel
theorem dX11_feed_14 : decode cX11_feed 14 = .ok (.ireturn, 1) := by decide +kernel
theorem dX11_feed_15 : decode cX11_feed 15 = .ok (.aload_n 0, 1) := by decide +kernel
theorem dX11_feed_16 : decode cX11_feed 16 = .ok (.getfield 97, 3) := by decide +kernel
theorem dX11_feed_19 : decode cX11_feed 19 = .ok (.sipush 240, 3) := by decide +kernel
theorem dX11_feed_22 : decode cX11_feed 22 = .ok (.if_icmp .ne 6, 3) := by decide +kernel
theorem dX11_feed_25 : decode cX11_feed 25 = .ok (.ldc 100, 2) := by decide +kernel
theorem dX11_feed_27 : decode cX11_feed 27 = .ok (.ireturn, 1) := by decide +kernel
theorem dX11_feed_28 : decode cX11_feed 28 = .ok (.aload_n 0, 1) := by decide +kernel
theorem dX11_feed_29 : decode cX11_feed 29 = .ok (.getfield 16, 3) := by decide +kernel
theorem dX11_feed_32 : decode cX11_feed 32 = .ok (.aload_n 0, 1) := by decide +kernel
theorem dX11_feed_33 : decode cX11_feed 33 = .ok (.getfield 97, 3) := by decide +kernel
theorem dX11_feed_36 : decode cX11_feed 36 = .ok (.iload_n 1, 1) := by decide +kernel
theorem dX11_feed_37 : decode cX11_feed 37 = .ok (.iastore, 1) := by decide +kernel
theorem dX11_feed_38 : decode cX11_feed 38 = .ok (.aload_n 0, 1) := by decide +kernel
theorem dX11_feed_39 : decode cX11_feed 39 = .ok (.dup, 1) := by decide +kernel
theorem dX11_feed_40 : decode cX11_feed 40 = .ok (.getfield 97, 3) := by decide +kernel
theorem dX11_feed_43 : decode cX11_feed 43 = .ok (.iconst 1, 1) := by decide +kernel
theorem dX11_feed_44 : decode cX11_feed 44 = .ok (.iadd, 1) := by decide +kernel
theorem dX11_feed_45 : decode cX11_feed 45 = .ok (.putfield 97, 3) := by decide +kernel
theorem dX11_feed_48 : decode cX11_feed 48 = .ok (.aload_n 0, 1) := by decide +kernel
theorem dX11_feed_49 : decode cX11_feed 49 = .ok (.getfield 97, 3) := by decide +kernel
theorem dX11_feed_52 : decode cX11_feed 52 = .ok (.ireturn, 1) := by decide +kernel
def Mo_feed (a0 : Int32) (S : gm_M) : Option (Int32 × gm_M) :=
  gm_bp1 (Mo_in ((a0 : Int32).toInt64) 0 255) fun v1 =>
  if v1 = 0 then (
    some ((-1000000002), S)
  ) else (
    if S.1 0 9 = 240 then (
      some ((-1000000004), S)
    ) else (
      gm_ck (S.1 0 9) 240 <|
      gm_lt (α := gm_M) (gm_ui S 3 ((S.1 0 9).toNatClampNeg) a0) fun S5 =>
      gm_lt (α := gm_M) (gm_ui S5 0 9 ((S5.1 0 9) + 1)) fun S6 =>
      some (S6.1 0 9, S6)
    )
  )
set_option maxHeartbeats 4000000 in
set_option maxRecDepth 100000 in
theorem Mo_feed_c (l : Launch) (cf : gm_C) (ad : Nat → Nat)    {a0 : Int32} {S : gm_M} {r : Int32} {S'  : gm_M} (hf : Mo_feed a0 S = some (r, S')) : gm_Met l yX11_feed cX11_feed 2 (some .int) 1 25 cf ad gm_sM 17 [.ref (ad 0), .int a0] S (some (.int r)) S' := by
  refine gm_met (by decide +kernel) (Nat.le_of_ble_eq_true rfl) ?_
  intro p e s m args below meth c C hr
  have C : gm_F p s m args meth c cf ad 17 cX11_feed 2 RX11 := C
  refine gm_lve (lv' := [(0, .ref (ad 0)), (1, .int a0)]) rfl ?_
  unfold Mo_feed at hf
  refine gm_iload_n C dX11_feed_0 rfl 1 rfl ?_
  refine gm_i2l C dX11_feed_1 rfl ?_
  refine gm_lconst (v := 0) C dX11_feed_2 (by decide) ?_
  refine gm_ldc2 (v := 255) C wl_956 dX11_feed_3 ?_
  obtain ⟨v1, ev1, hf⟩ := gm_bp1_s hf
  refine gm_callSi (As := [.long ((a0 : Int32).toInt64), .long 0, .long 255]) C (Mo_in_c l cf ad ev1 (S := S)) wy_Mo_in wl_957 rfl ⟨(Nat.le_of_ble_eq_true rfl), (Nat.le_of_ble_eq_true rfl)⟩ rfl (Nat.le_of_ble_eq_true rfl) dX11_feed_6 ?_
  refine gm_if_ne C 15 dX11_feed_9 (by decide) (fun c2 => ?_) (fun c2 => ?_)
  · have hf := gm_if _ c2 hf
    refine gm_aload_n C dX11_feed_15 rfl 0 rfl ?_
    refine gm_geti C (Nat.le_of_ble_eq_true rfl) rfl kc_11 (k := 9) rfl (by decide) rfl wl_849 dX11_feed_16 ?_
    refine gm_sipush (v := 240) C dX11_feed_19 (by decide) ?_
    refine gm_icmp_ne C 28 dX11_feed_22 (by decide) (fun c3 => ?_) (fun c3 => ?_)
    · have hf := gm_if _ c3 hf
      refine gm_aload_n C dX11_feed_28 rfl 0 rfl ?_
      refine gm_getr (j := 3) (u := 3) C (Nat.le_of_ble_eq_true rfl) rfl kc_11 (k := 8) rfl (by decide) rfl rfl wl_848 dX11_feed_29 ?_
      refine gm_aload_n C dX11_feed_32 rfl 0 rfl ?_
      refine gm_geti C (Nat.le_of_ble_eq_true rfl) rfl kc_11 (k := 9) rfl (by decide) rfl wl_849 dX11_feed_33 ?_
      refine gm_iload_n C dX11_feed_36 rfl 1 rfl ?_
      obtain ⟨h4, hf⟩ := gm_ck_s hf
      refine gm_iast C (Nat.le_of_ble_eq_true rfl) rfl rfl h4 dX11_feed_37 ?_
      obtain ⟨S5, eS5, hf⟩ := gm_lt_s hf
      refine gm_topm eS5 ?_
      refine gm_aload_n C dX11_feed_38 rfl 0 rfl ?_
      refine gm_dup C dX11_feed_39 rfl ?_
      refine gm_geti C (Nat.le_of_ble_eq_true rfl) rfl kc_11 (k := 9) rfl (by decide) rfl wl_849 dX11_feed_40 ?_
      refine gm_iconst (v := 1) C dX11_feed_43 (by decide) ?_
      refine gm_iadd C dX11_feed_44 ?_
      refine gm_puti C (Nat.le_of_ble_eq_true rfl) rfl kc_11 (k := 9) rfl (by decide) rfl rfl (kc_11.2.2.2.1 9 (by decide)) rfl rfl wl_849 dX11_feed_45 ?_
      obtain ⟨S6, eS6, hf⟩ := gm_lt_s hf
      refine gm_topm eS6 ?_
      refine gm_aload_n C dX11_feed_48 rfl 0 rfl ?_
      refine gm_geti C (Nat.le_of_ble_eq_true rfl) rfl kc_11 (k := 9) rfl (by decide) rfl wl_849 dX11_feed_49 ?_
      exact gm_iret C hr rfl dX11_feed_52 hf
    · have hf := gm_it _ c3 hf
      refine gm_ldc (v := (-1000000004)) C wl_961 dX11_feed_25 ?_
      exact gm_iret C hr rfl dX11_feed_27 hf
  · have hf := gm_it _ c2 hf
    refine gm_ldc (v := (-1000000002)) C wl_960 dX11_feed_12 ?_
    exact gm_iret C hr rfl dX11_feed_14 hf
theorem dX11_here_0 : decode cX11_here 0 = .ok (.aload_n 0, 1) := by decide +kernel
theorem dX11_here_1 : decode cX11_here 1 = .ok (.getfield 101, 3) := by decide +kernel
theorem dX11_here_4 : decode cX11_here 4 = .ok (.aload_n 0, 1) := by decide +kernel
theorem dX11_here_5 : decode cX11_here 5 = .ok (.getfield 97, 3) := by decide +kernel
theorem dX11_here_8 : decode cX11_here 8 = .ok (.if_icmp .ge 30, 3) := by decide +kernel
theorem dX11_here_11 : decode cX11_here 11 = .ok (.aload_n 0, 1) := by decide +kernel
theorem dX11_here_12 : decode cX11_here 12 = .ok (.getfield 16, 3) := by decide +kernel
theorem dX11_here_15 : decode cX11_here 15 = .ok (.aload_n 0, 1) := by decide +kernel
theorem dX11_here_16 : decode cX11_here 16 = .ok (.getfield 101, 3) := by decide +kernel
theorem dX11_here_19 : decode cX11_here 19 = .ok (.iaload, 1) := by decide +kernel
theorem dX11_here_20 : decode cX11_here 20 = .ok (.bipush 32, 2) := by decide +kernel
theorem dX11_here_22 : decode cX11_here 22 = .ok (.if_icmp .ne 16, 3) := by decide +kernel
theorem dX11_here_25 : decode cX11_here 25 = .ok (.aload_n 0, 1) := by decide +kernel
theorem dX11_here_26 : decode cX11_here 26 = .ok (.dup, 1) := by decide +kernel
theorem dX11_here_27 : decode cX11_here 27 = .ok (.getfield 101, 3) := by decide +kernel
theorem dX11_here_30 : decode cX11_here 30 = .ok (.iconst 1, 1) := by decide +kernel
theorem dX11_here_31 : decode cX11_here 31 = .ok (.iadd, 1) := by decide +kernel
theorem dX11_here_32 : decode cX11_here 32 = .ok (.putfield 101, 3) := by decide +kernel
theorem dX11_here_35 : decode cX11_here 35 = .ok (.goto (-35), 3) := by decide +kernel
theorem dX11_here_38 : decode cX11_here 38 = .ok (.aload_n 0, 1) := by decide +kernel
theorem dX11_here_39 : decode cX11_here 39 = .ok (.getfield 101, 3) := by decide +kernel
theorem dX11_here_42 : decode cX11_here 42 = .ok (.aload_n 0, 1) := by decide +kernel
theorem dX11_here_43 : decode cX11_here 43 = .ok (.getfield 97, 3) := by decide +kernel
theorem dX11_here_46 : decode cX11_here 46 = .ok (.if_icmp .ge 15, 3) := by decide +kernel
theorem dX11_here_49 : decode cX11_here 49 = .ok (.aload_n 0, 1) := by decide +kernel
theorem dX11_here_50 : decode cX11_here 50 = .ok (.getfield 16, 3) := by decide +kernel
theorem dX11_here_53 : decode cX11_here 53 = .ok (.aload_n 0, 1) := by decide +kernel
theorem dX11_here_54 : decode cX11_here 54 = .ok (.getfield 101, 3) := by decide +kernel
theorem dX11_here_57 : decode cX11_here 57 = .ok (.iaload, 1) := by decide +kernel
theorem dX11_here_58 : decode cX11_here 58 = .ok (.goto 4, 3) := by decide +kernel
theorem dX11_here_61 : decode cX11_here 61 = .ok (.iconst (-1), 1) := by decide +kernel
theorem dX11_here_62 : decode cX11_here 62 = .ok (.ireturn, 1) := by decide +kernel
def Mo_here_L0_b  (rec : gm_M → Option (gm_M)) (S1 : gm_M) : Option (gm_M) :=
  if S1.1 0 9 ≤ S1.1 0 11 then (
    some (S1)
  ) else (
    gm_ck (S1.1 0 11) 240 <|
    if S1.1 3 (S1.1 0 11).toNatClampNeg = 32 then (
      gm_lt (α := gm_M) (gm_ui S1 0 11 ((S1.1 0 11) + 1)) fun S6 =>
      rec S6
    ) else (
      some (S1)
    )
  )
def Mo_here_L0  : Nat → gm_M → Option (gm_M)
  | 0 => fun _ => none
  | n + 1 => Mo_here_L0_b  (Mo_here_L0  n)
def Mo_here (fl : Nat) (S : gm_M) : Option (Int32 × gm_M) :=
  gm_bp1 (Mo_here_L0  fl S) fun S2 =>
  if S2.1 0 9 ≤ S2.1 0 11 then (
    some ((-1), S2)
  ) else (
    gm_ck (S2.1 0 11) 240 <|
    some (S2.1 3 (S2.1 0 11).toNatClampNeg, S2)
  )
set_option maxHeartbeats 4000000 in
set_option maxRecDepth 100000 in
theorem Mo_here_c (l : Launch) (cf : gm_C) (ad : Nat → Nat) {fl : Nat}    {S : gm_M} {r : Int32} {S'  : gm_M} (hf : Mo_here fl S = some (r, S')) : gm_Met l yX11_here cX11_here 1 (some .int) 0 0 cf ad gm_sM 17 [.ref (ad 0)] S (some (.int r)) S' := by
  refine gm_met (by decide +kernel) (Nat.le_of_ble_eq_true rfl) ?_
  intro p e s m args below meth c C hr
  have C : gm_F p s m args meth c cf ad 17 cX11_here 1 RX11 := C
  refine gm_lve (lv' := [(0, .ref (ad 0))]) rfl ?_
  unfold Mo_here at hf
  have L0 : ∀ (n : Nat) (S1 : gm_M) (S2 : gm_M), Mo_here_L0  n S1 = some (S2) → gm_G p l e { frames := 0, cells := 0, slots := 0, locals := 0 } s m args below meth c (MQ below (gm_Q cf ad gm_sM 17 (some (.int r)) S') args s 0 0 (gm_A ad 17)) cf ad gm_sM 17 1 S2 38 [(0, .ref (ad 0))] [] → gm_G p l e { frames := 0, cells := 0, slots := 0, locals := 0 } s m args below meth c (MQ below (gm_Q cf ad gm_sM 17 (some (.int r)) S') args s 0 0 (gm_A ad 17)) cf ad gm_sM 17 1 S1 0 [(0, .ref (ad 0))] [] := by
    intro n
    induction n with
    | zero => intro S1 S2 hf K; cases (show (none : Option _) = some _ from hf)
    | succ n ih =>
      intro S1 S2 hf K
      have hf : Mo_here_L0_b  (Mo_here_L0  n) S1 = some (S2) := hf
      unfold Mo_here_L0_b at hf
      refine gm_aload_n C dX11_here_0 rfl 0 rfl ?_
      refine gm_geti C (Nat.le_of_ble_eq_true rfl) rfl kc_11 (k := 11) rfl (by decide) rfl wl_851 dX11_here_1 ?_
      refine gm_aload_n C dX11_here_4 rfl 0 rfl ?_
      refine gm_geti C (Nat.le_of_ble_eq_true rfl) rfl kc_11 (k := 9) rfl (by decide) rfl wl_849 dX11_here_5 ?_
      refine gm_icmp_ge C 38 dX11_here_8 (by decide) (fun c3 => ?_) (fun c3 => ?_)
      · have hf := gm_it _ c3 hf
        cases hf
        exact gm_lvp [0] rfl K
      · have hf := gm_if _ c3 hf
        refine gm_aload_n C dX11_here_11 rfl 0 rfl ?_
        refine gm_getr (j := 3) (u := 3) C (Nat.le_of_ble_eq_true rfl) rfl kc_11 (k := 8) rfl (by decide) rfl rfl wl_848 dX11_here_12 ?_
        refine gm_aload_n C dX11_here_15 rfl 0 rfl ?_
        refine gm_geti C (Nat.le_of_ble_eq_true rfl) rfl kc_11 (k := 11) rfl (by decide) rfl wl_851 dX11_here_16 ?_
        obtain ⟨h4, hf⟩ := gm_ck_s hf
        refine gm_iald C (Nat.le_of_ble_eq_true rfl) rfl rfl h4 dX11_here_19 ?_
        refine gm_bipush (v := 32) C dX11_here_20 (by decide) ?_
        refine gm_icmp_ne C 38 dX11_here_22 (by decide) (fun c5 => ?_) (fun c5 => ?_)
        · have hf := gm_if _ c5 hf
          cases hf
          exact gm_lvp [0] rfl K
        · have hf := gm_it _ c5 hf
          refine gm_aload_n C dX11_here_25 rfl 0 rfl ?_
          refine gm_dup C dX11_here_26 rfl ?_
          refine gm_geti C (Nat.le_of_ble_eq_true rfl) rfl kc_11 (k := 11) rfl (by decide) rfl wl_851 dX11_here_27 ?_
          refine gm_iconst (v := 1) C dX11_here_30 (by decide) ?_
          refine gm_iadd C dX11_here_31 ?_
          refine gm_puti C (Nat.le_of_ble_eq_true rfl) rfl kc_11 (k := 11) rfl (by decide) rfl rfl (kc_11.2.2.2.1 11 (by decide)) rfl rfl wl_851 dX11_here_32 ?_
          obtain ⟨S6, eS6, hf⟩ := gm_lt_s hf
          refine gm_topm eS6 ?_
          refine gm_goto C 0 dX11_here_35 (by decide) ?_
          exact gm_lvp [0] rfl (ih _ _ hf K)
  obtain ⟨S2, hx, hf⟩ := gm_bp1_s hf
  refine gm_lvp [0] rfl (L0 fl _ _ hx ?_)
  refine gm_aload_n C dX11_here_38 rfl 0 rfl ?_
  refine gm_geti C (Nat.le_of_ble_eq_true rfl) rfl kc_11 (k := 11) rfl (by decide) rfl wl_851 dX11_here_39 ?_
  refine gm_aload_n C dX11_here_42 rfl 0 rfl ?_
  refine gm_geti C (Nat.le_of_ble_eq_true rfl) rfl kc_11 (k := 9) rfl (by decide) rfl wl_849 dX11_here_43 ?_
  refine gm_icmp_ge C 61 dX11_here_46 (by decide) (fun c7 => ?_) (fun c7 => ?_)
  · have hf := gm_it _ c7 hf
    refine gm_iconst (v := (-1)) C dX11_here_61 (by decide) ?_
    exact gm_iret C hr rfl dX11_here_62 hf
  · have hf := gm_if _ c7 hf
    refine gm_aload_n C dX11_here_49 rfl 0 rfl ?_
    refine gm_getr (j := 3) (u := 3) C (Nat.le_of_ble_eq_true rfl) rfl kc_11 (k := 8) rfl (by decide) rfl rfl wl_848 dX11_here_50 ?_
    refine gm_aload_n C dX11_here_53 rfl 0 rfl ?_
    refine gm_geti C (Nat.le_of_ble_eq_true rfl) rfl kc_11 (k := 11) rfl (by decide) rfl wl_851 dX11_here_54 ?_
    obtain ⟨h8, hf⟩ := gm_ck_s hf
    refine gm_iald C (Nat.le_of_ble_eq_true rfl) rfl rfl h8 dX11_here_57 ?_
    refine gm_goto C 62 dX11_here_58 (by decide) ?_
    exact gm_iret C hr rfl dX11_here_62 hf
theorem dX11_fails_0 : decode cX11_fails 0 = .ok (.aload_n 0, 1) := by decide +kernel
theorem dX11_fails_1 : decode cX11_fails 1 = .ok (.iload_n 2, 1) := by decide +kernel
theorem dX11_fails_2 : decode cX11_fails 2 = .ok (.putfield 19, 3) := by decide +kernel
theorem dX11_fails_5 : decode cX11_fails 5 = .ok (.iload_n 1, 1) := by decide +kernel
theorem dX11_fails_6 : decode cX11_fails 6 = .ok (.ireturn, 1) := by decide +kernel
def Mo_fails (a0 : Int32) (a1 : Int32) (S : gm_M) : Option (Int32 × gm_M) :=
  gm_lt (α := gm_M) (gm_ui S 0 10 a1) fun S1 =>
  some (a0, S1)
set_option maxHeartbeats 4000000 in
set_option maxRecDepth 100000 in
theorem Mo_fails_c (l : Launch) (cf : gm_C) (ad : Nat → Nat)    {a0 : Int32} {a1 : Int32} {S : gm_M} {r : Int32} {S'  : gm_M} (hf : Mo_fails a0 a1 S = some (r, S')) : gm_Met l yX11_fails cX11_fails 3 (some .int) 0 0 cf ad gm_sM 17 [.ref (ad 0), .int a0, .int a1] S (some (.int r)) S' := by
  refine gm_met (by decide +kernel) (Nat.le_of_ble_eq_true rfl) ?_
  intro p e s m args below meth c C hr
  have C : gm_F p s m args meth c cf ad 17 cX11_fails 3 RX11 := C
  refine gm_lve (lv' := [(0, .ref (ad 0)), (1, .int a0), (2, .int a1)]) rfl ?_
  unfold Mo_fails at hf
  refine gm_aload_n C dX11_fails_0 rfl 0 rfl ?_
  refine gm_iload_n C dX11_fails_1 rfl 2 rfl ?_
  refine gm_puti C (Nat.le_of_ble_eq_true rfl) rfl kc_11 (k := 10) rfl (by decide) rfl rfl (kc_11.2.2.2.1 10 (by decide)) rfl rfl wl_850 dX11_fails_2 ?_
  obtain ⟨S1, eS1, hf⟩ := gm_lt_s hf
  refine gm_topm eS1 ?_
  refine gm_iload_n C dX11_fails_5 rfl 1 rfl ?_
  exact gm_iret C hr rfl dX11_fails_6 hf
theorem dX11_isFull_0 : decode cX11_isFull 0 = .ok (.iload_n 1, 1) := by decide +kernel
theorem dX11_isFull_1 : decode cX11_isFull 1 = .ok (.tableswitch 77 0 3 #[31, 44, 49, 63], 31) := by decide +kernel
theorem dX11_isFull_32 : decode cX11_isFull 32 = .ok (.aload_n 0, 1) := by decide +kernel
theorem dX11_isFull_33 : decode cX11_isFull 33 = .ok (.getfield 126, 3) := by decide +kernel
theorem dX11_isFull_36 : decode cX11_isFull 36 = .ok (.ifCond .le 7, 3) := by decide +kernel
theorem dX11_isFull_39 : decode cX11_isFull 39 = .ok (.iconst 1, 1) := by decide +kernel
theorem dX11_isFull_40 : decode cX11_isFull 40 = .ok (.goto 4, 3) := by decide +kernel
theorem dX11_isFull_43 : decode cX11_isFull 43 = .ok (.iconst 0, 1) := by decide +kernel
theorem dX11_isFull_44 : decode cX11_isFull 44 = .ok (.ireturn, 1) := by decide +kernel
theorem dX11_isFull_45 : decode cX11_isFull 45 = .ok (.aload_n 0, 1) := by decide +kernel
theorem dX11_isFull_46 : decode cX11_isFull 46 = .ok (.getfield 132, 3) := by decide +kernel
theorem dX11_isFull_49 : decode cX11_isFull 49 = .ok (.ireturn, 1) := by decide +kernel
theorem dX11_isFull_50 : decode cX11_isFull 50 = .ok (.aload_n 0, 1) := by decide +kernel
theorem dX11_isFull_51 : decode cX11_isFull 51 = .ok (.getfield 139, 3) := by decide +kernel
theorem dX11_isFull_54 : decode cX11_isFull 54 = .ok (.iconst 4, 1) := by decide +kernel
theorem dX11_isFull_55 : decode cX11_isFull 55 = .ok (.if_icmp .ne 7, 3) := by decide +kernel
theorem dX11_isFull_58 : decode cX11_isFull 58 = .ok (.iconst 1, 1) := by decide +kernel
theorem dX11_isFull_59 : decode cX11_isFull 59 = .ok (.goto 4, 3) := by decide +kernel
theorem dX11_isFull_62 : decode cX11_isFull 62 = .ok (.iconst 0, 1) := by decide +kernel
theorem dX11_isFull_63 : decode cX11_isFull 63 = .ok (.ireturn, 1) := by decide +kernel
theorem dX11_isFull_64 : decode cX11_isFull 64 = .ok (.aload_n 0, 1) := by decide +kernel
theorem dX11_isFull_65 : decode cX11_isFull 65 = .ok (.getfield 150, 3) := by decide +kernel
theorem dX11_isFull_68 : decode cX11_isFull 68 = .ok (.iconst 4, 1) := by decide +kernel
theorem dX11_isFull_69 : decode cX11_isFull 69 = .ok (.if_icmp .ne 7, 3) := by decide +kernel
theorem dX11_isFull_72 : decode cX11_isFull 72 = .ok (.iconst 1, 1) := by decide +kernel
theorem dX11_isFull_73 : decode cX11_isFull 73 = .ok (.goto 4, 3) := by decide +kernel
theorem dX11_isFull_76 : decode cX11_isFull 76 = .ok (.iconst 0, 1) := by decide +kernel
theorem dX11_isFull_77 : decode cX11_isFull 77 = .ok (.ireturn, 1) := by decide +kernel
theorem dX11_isFull_78 : decode cX11_isFull 78 = .ok (.aload_n 0, 1) := by decide +kernel
theorem dX11_isFull_79 : decode cX11_isFull 79 = .ok (.getfield 153, 3) := by decide +kernel
theorem dX11_isFull_82 : decode cX11_isFull 82 = .ok (.iconst 5, 1) := by decide +kernel
theorem dX11_isFull_83 : decode cX11_isFull 83 = .ok (.if_icmp .ne 7, 3) := by decide +kernel
theorem dX11_isFull_86 : decode cX11_isFull 86 = .ok (.iconst 1, 1) := by decide +kernel
theorem dX11_isFull_87 : decode cX11_isFull 87 = .ok (.goto 4, 3) := by decide +kernel
theorem dX11_isFull_90 : decode cX11_isFull 90 = .ok (.iconst 0, 1) := by decide +kernel
theorem dX11_isFull_91 : decode cX11_isFull 91 = .ok (.ireturn, 1) := by decide +kernel
def Mo_isFull (a0 : Int32) (S : gm_M) : Option Int32 :=
  if a0 = 0 then (
    if S.1 0 14 ≤ 0 then (
      some (0)
    ) else (
      some (1)
    )
  ) else (
  if a0 = 1 then (
    gm_lt (α := Int32) (S.1 0 16) fun x5 =>
    if vp_nar .boolean x5 = x5 then (some x5) else none
  ) else (
  if a0 = 2 then (
    if S.1 0 18 = 4 then (
      some (1)
    ) else (
      some (0)
    )
  ) else (
  if a0 = 3 then (
    if S.1 0 22 = 4 then (
      some (1)
    ) else (
      some (0)
    )
  ) else (
    if S.1 0 25 = 5 then (
      some (1)
    ) else (
      some (0)
    )
  ))))
set_option maxHeartbeats 4000000 in
set_option maxRecDepth 100000 in
theorem Mo_isFull_c (l : Launch) (cf : gm_C) (ad : Nat → Nat)    {a0 : Int32} {S : gm_M} {r : Int32}  (hf : Mo_isFull a0 S = some r) : gm_Met l yX11_isFull cX11_isFull 2 (some .boolean) 0 0 cf ad gm_sM 17 [.ref (ad 0), .int a0] S (some (.int r)) S := by
  refine gm_met (by decide +kernel) (Nat.le_of_ble_eq_true rfl) ?_
  intro p e s m args below meth c C hr
  have C : gm_F p s m args meth c cf ad 17 cX11_isFull 2 RX11 := C
  refine gm_lve (lv' := [(0, .ref (ad 0)), (1, .int a0)]) rfl ?_
  unfold Mo_isFull at hf
  refine gm_iload_n C dX11_isFull_0 rfl 1 rfl ?_
  by_cases c1 : a0 = 0
  · have hf := gm_it _ c1 hf
    refine gm_tableIn C 32 dX11_isFull_1 (by rw [c1]; decide) (by rw [c1]; decide) (by rw [c1]; rfl) (by decide) ?_
    refine gm_aload_n C dX11_isFull_32 rfl 0 rfl ?_
    refine gm_geti C (Nat.le_of_ble_eq_true rfl) rfl kc_11 (k := 14) rfl (by decide) rfl wl_854 dX11_isFull_33 ?_
    refine gm_if_le C 43 dX11_isFull_36 (by decide) (fun c2 => ?_) (fun c2 => ?_)
    · have hf := gm_it _ c2 hf
      refine gm_iconst (v := 0) C dX11_isFull_43 (by decide) ?_
      exact gm_iretK C hr rfl dX11_isFull_44 hf
    · have hf := gm_if _ c2 hf
      refine gm_iconst (v := 1) C dX11_isFull_39 (by decide) ?_
      refine gm_goto C 44 dX11_isFull_40 (by decide) ?_
      exact gm_iretK C hr rfl dX11_isFull_44 hf
  · have hf := gm_if _ c1 hf
    by_cases c3 : a0 = 1
    · have hf := gm_it _ c3 hf
      refine gm_tableIn C 45 dX11_isFull_1 (by rw [c3]; decide) (by rw [c3]; decide) (by rw [c3]; rfl) (by decide) ?_
      refine gm_aload_n C dX11_isFull_45 rfl 0 rfl ?_
      refine gm_geti C (Nat.le_of_ble_eq_true rfl) rfl kc_11 (k := 16) rfl (by decide) rfl wl_856 dX11_isFull_46 ?_
      obtain ⟨x5, ex5, hf⟩ := gm_lt_s hf
      refine gm_topi ex5 ?_
      obtain ⟨h4, hf⟩ := gm_in _ hf
      exact gm_iretK C hr (gm_zb h4) dX11_isFull_49 hf
    · have hf := gm_if _ c3 hf
      by_cases c6 : a0 = 2
      · have hf := gm_it _ c6 hf
        refine gm_tableIn C 50 dX11_isFull_1 (by rw [c6]; decide) (by rw [c6]; decide) (by rw [c6]; rfl) (by decide) ?_
        refine gm_aload_n C dX11_isFull_50 rfl 0 rfl ?_
        refine gm_geti C (Nat.le_of_ble_eq_true rfl) rfl kc_11 (k := 18) rfl (by decide) rfl wl_858 dX11_isFull_51 ?_
        refine gm_iconst (v := 4) C dX11_isFull_54 (by decide) ?_
        refine gm_icmp_ne C 62 dX11_isFull_55 (by decide) (fun c7 => ?_) (fun c7 => ?_)
        · have hf := gm_if _ c7 hf
          refine gm_iconst (v := 0) C dX11_isFull_62 (by decide) ?_
          exact gm_iretK C hr rfl dX11_isFull_63 hf
        · have hf := gm_it _ c7 hf
          refine gm_iconst (v := 1) C dX11_isFull_58 (by decide) ?_
          refine gm_goto C 63 dX11_isFull_59 (by decide) ?_
          exact gm_iretK C hr rfl dX11_isFull_63 hf
      · have hf := gm_if _ c6 hf
        by_cases c8 : a0 = 3
        · have hf := gm_it _ c8 hf
          refine gm_tableIn C 64 dX11_isFull_1 (by rw [c8]; decide) (by rw [c8]; decide) (by rw [c8]; rfl) (by decide) ?_
          refine gm_aload_n C dX11_isFull_64 rfl 0 rfl ?_
          refine gm_geti C (Nat.le_of_ble_eq_true rfl) rfl kc_11 (k := 22) rfl (by decide) rfl wl_862 dX11_isFull_65 ?_
          refine gm_iconst (v := 4) C dX11_isFull_68 (by decide) ?_
          refine gm_icmp_ne C 76 dX11_isFull_69 (by decide) (fun c9 => ?_) (fun c9 => ?_)
          · have hf := gm_if _ c9 hf
            refine gm_iconst (v := 0) C dX11_isFull_76 (by decide) ?_
            exact gm_iretK C hr rfl dX11_isFull_77 hf
          · have hf := gm_it _ c9 hf
            refine gm_iconst (v := 1) C dX11_isFull_72 (by decide) ?_
            refine gm_goto C 77 dX11_isFull_73 (by decide) ?_
            exact gm_iretK C hr rfl dX11_isFull_77 hf
        · have hf := gm_if _ c8 hf
          have nc1 : (a0).toInt ≠ 0 := gm_nt c1
          have nc3 : (a0).toInt ≠ 1 := gm_nt c3
          have nc6 : (a0).toInt ≠ 2 := gm_nt c6
          have nc8 : (a0).toInt ≠ 3 := gm_nt c8
          refine gm_tableOut C 78 dX11_isFull_1 (by omega) (by decide) ?_
          refine gm_aload_n C dX11_isFull_78 rfl 0 rfl ?_
          refine gm_geti C (Nat.le_of_ble_eq_true rfl) rfl kc_11 (k := 25) rfl (by decide) rfl wl_865 dX11_isFull_79 ?_
          refine gm_iconst (v := 5) C dX11_isFull_82 (by decide) ?_
          refine gm_icmp_ne C 90 dX11_isFull_83 (by decide) (fun c10 => ?_) (fun c10 => ?_)
          · have hf := gm_if _ c10 hf
            refine gm_iconst (v := 0) C dX11_isFull_90 (by decide) ?_
            exact gm_iretK C hr rfl dX11_isFull_91 hf
          · have hf := gm_it _ c10 hf
            refine gm_iconst (v := 1) C dX11_isFull_86 (by decide) ?_
            refine gm_goto C 91 dX11_isFull_87 (by decide) ?_
            exact gm_iretK C hr rfl dX11_isFull_91 hf
theorem dX11_takeNumber_0 : decode cX11_takeNumber 0 = .ok (.aload_n 0, 1) := by decide +kernel
theorem dX11_takeNumber_1 : decode cX11_takeNumber 1 = .ok (.invokevirtual 104, 3) := by decide +kernel
theorem dX11_takeNumber_4 : decode cX11_takeNumber 4 = .ok (.istore_n 3, 1) := by decide +kernel
theorem dX11_takeNumber_5 : decode cX11_takeNumber 5 = .ok (.iload_n 3, 1) := by decide +kernel
theorem dX11_takeNumber_6 : decode cX11_takeNumber 6 = .ok (.i2l, 1) := by decide +kernel
theorem dX11_takeNumber_7 : decode cX11_takeNumber 7 = .ok (.ldc2_w 108, 3) := by decide +kernel
theorem dX11_takeNumber_10 : decode cX11_takeNumber 10 = .ok (.ldc2_w 110, 3) := by decide +kernel
theorem dX11_takeNumber_13 : decode cX11_takeNumber 13 = .ok (.invokestatic 69, 3) := by decide +kernel
theorem dX11_takeNumber_16 : decode cX11_takeNumber 16 = .ok (.ifCond .ne 13, 3) := by decide +kernel
theorem dX11_takeNumber_19 : decode cX11_takeNumber 19 = .ok (.aload_n 0, 1) := by decide +kernel
theorem dX11_takeNumber_20 : decode cX11_takeNumber 20 = .ok (.iconst 1, 1) := by decide +kernel
theorem dX11_takeNumber_21 : decode cX11_takeNumber 21 = .ok (.aload_n 0, 1) := by decide +kernel
theorem dX11_takeNumber_22 : decode cX11_takeNumber 22 = .ok (.getfield 101, 3) := by decide +kernel
theorem dX11_takeNumber_25 : decode cX11_takeNumber 25 = .ok (.invokevirtual 112, 3) := by decide +kernel
theorem dX11_takeNumber_28 : decode cX11_takeNumber 28 = .ok (.ireturn, 1) := by decide +kernel
theorem dX11_takeNumber_29 : decode cX11_takeNumber 29 = .ok (.aload_n 0, 1) := by decide +kernel
theorem dX11_takeNumber_30 : decode cX11_takeNumber 30 = .ok (.aload_n 0, 1) := by decide +kernel
theorem dX11_takeNumber_31 : decode cX11_takeNumber 31 = .ok (.getfield 101, 3) := by decide +kernel
theorem dX11_takeNumber_34 : decode cX11_takeNumber 34 = .ok (.putfield 116, 3) := by decide +kernel
theorem dX11_takeNumber_37 : decode cX11_takeNumber 37 = .ok (.aload_n 0, 1) := by decide +kernel
theorem dX11_takeNumber_38 : decode cX11_takeNumber 38 = .ok (.iconst 0, 1) := by decide +kernel
theorem dX11_takeNumber_39 : decode cX11_takeNumber 39 = .ok (.putfield 119, 3) := by decide +kernel
theorem dX11_takeNumber_42 : decode cX11_takeNumber 42 = .ok (.aload_n 0, 1) := by decide +kernel
theorem dX11_takeNumber_43 : decode cX11_takeNumber 43 = .ok (.getfield 101, 3) := by decide +kernel
theorem dX11_takeNumber_46 : decode cX11_takeNumber 46 = .ok (.aload_n 0, 1) := by decide +kernel
theorem dX11_takeNumber_47 : decode cX11_takeNumber 47 = .ok (.getfield 97, 3) := by decide +kernel
theorem dX11_takeNumber_50 : decode cX11_takeNumber 50 = .ok (.if_icmp .ge 78, 3) := by decide +kernel
theorem dX11_takeNumber_53 : decode cX11_takeNumber 53 = .ok (.aload_n 0, 1) := by decide +kernel
theorem dX11_takeNumber_54 : decode cX11_takeNumber 54 = .ok (.getfield 16, 3) := by decide +kernel
theorem dX11_takeNumber_57 : decode cX11_takeNumber 57 = .ok (.aload_n 0, 1) := by decide +kernel
theorem dX11_takeNumber_58 : decode cX11_takeNumber 58 = .ok (.getfield 101, 3) := by decide +kernel
theorem dX11_takeNumber_61 : decode cX11_takeNumber 61 = .ok (.iaload, 1) := by decide +kernel
theorem dX11_takeNumber_62 : decode cX11_takeNumber 62 = .ok (.i2l, 1) := by decide +kernel
theorem dX11_takeNumber_63 : decode cX11_takeNumber 63 = .ok (.ldc2_w 108, 3) := by decide +kernel
theorem dX11_takeNumber_66 : decode cX11_takeNumber 66 = .ok (.ldc2_w 110, 3) := by decide +kernel
theorem dX11_takeNumber_69 : decode cX11_takeNumber 69 = .ok (.invokestatic 69, 3) := by decide +kernel
theorem dX11_takeNumber_72 : decode cX11_takeNumber 72 = .ok (.ifCond .eq 56, 3) := by decide +kernel
theorem dX11_takeNumber_75 : decode cX11_takeNumber 75 = .ok (.aload_n 0, 1) := by decide +kernel
theorem dX11_takeNumber_76 : decode cX11_takeNumber 76 = .ok (.aload_n 0, 1) := by decide +kernel
theorem dX11_takeNumber_77 : decode cX11_takeNumber 77 = .ok (.getfield 119, 3) := by decide +kernel
theorem dX11_takeNumber_80 : decode cX11_takeNumber 80 = .ok (.ldc 122, 2) := by decide +kernel
theorem dX11_takeNumber_82 : decode cX11_takeNumber 82 = .ok (.if_icmp .le 10, 3) := by decide +kernel
theorem dX11_takeNumber_85 : decode cX11_takeNumber 85 = .ok (.aload_n 0, 1) := by decide +kernel
theorem dX11_takeNumber_86 : decode cX11_takeNumber 86 = .ok (.getfield 119, 3) := by decide +kernel
theorem dX11_takeNumber_89 : decode cX11_takeNumber 89 = .ok (.goto 23, 3) := by decide +kernel
theorem dX11_takeNumber_92 : decode cX11_takeNumber 92 = .ok (.bipush 10, 2) := by decide +kernel
theorem dX11_takeNumber_94 : decode cX11_takeNumber 94 = .ok (.aload_n 0, 1) := by decide +kernel
theorem dX11_takeNumber_95 : decode cX11_takeNumber 95 = .ok (.getfield 119, 3) := by decide +kernel
theorem dX11_takeNumber_98 : decode cX11_takeNumber 98 = .ok (.imul, 1) := by decide +kernel
theorem dX11_takeNumber_99 : decode cX11_takeNumber 99 = .ok (.aload_n 0, 1) := by decide +kernel
theorem dX11_takeNumber_100 : decode cX11_takeNumber 100 = .ok (.getfield 16, 3) := by decide +kernel
theorem dX11_takeNumber_103 : decode cX11_takeNumber 103 = .ok (.aload_n 0, 1) := by decide +kernel
theorem dX11_takeNumber_104 : decode cX11_takeNumber 104 = .ok (.getfield 101, 3) := by decide +kernel
theorem dX11_takeNumber_107 : decode cX11_takeNumber 107 = .ok (.iaload, 1) := by decide +kernel
theorem dX11_takeNumber_108 : decode cX11_takeNumber 108 = .ok (.iadd, 1) := by decide +kernel
theorem dX11_takeNumber_109 : decode cX11_takeNumber 109 = .ok (.bipush 48, 2) := by decide +kernel
theorem dX11_takeNumber_111 : decode cX11_takeNumber 111 = .ok (.isub, 1) := by decide +kernel
theorem dX11_takeNumber_112 : decode cX11_takeNumber 112 = .ok (.putfield 119, 3) := by decide +kernel
theorem dX11_takeNumber_115 : decode cX11_takeNumber 115 = .ok (.aload_n 0, 1) := by decide +kernel
theorem dX11_takeNumber_116 : decode cX11_takeNumber 116 = .ok (.dup, 1) := by decide +kernel
theorem dX11_takeNumber_117 : decode cX11_takeNumber 117 = .ok (.getfield 101, 3) := by decide +kernel
theorem dX11_takeNumber_120 : decode cX11_takeNumber 120 = .ok (.iconst 1, 1) := by decide +kernel
theorem dX11_takeNumber_121 : decode cX11_takeNumber 121 = .ok (.iadd, 1) := by decide +kernel
theorem dX11_takeNumber_122 : decode cX11_takeNumber 122 = .ok (.putfield 101, 3) := by decide +kernel
theorem dX11_takeNumber_125 : decode cX11_takeNumber 125 = .ok (.goto (-83), 3) := by decide +kernel
theorem dX11_takeNumber_128 : decode cX11_takeNumber 128 = .ok (.aload_n 0, 1) := by decide +kernel
theorem dX11_takeNumber_129 : decode cX11_takeNumber 129 = .ok (.getfield 101, 3) := by decide +kernel
theorem dX11_takeNumber_132 : decode cX11_takeNumber 132 = .ok (.aload_n 0, 1) := by decide +kernel
theorem dX11_takeNumber_133 : decode cX11_takeNumber 133 = .ok (.getfield 116, 3) := by decide +kernel
theorem dX11_takeNumber_136 : decode cX11_takeNumber 136 = .ok (.isub, 1) := by decide +kernel
theorem dX11_takeNumber_137 : decode cX11_takeNumber 137 = .ok (.iconst 4, 1) := by decide +kernel
theorem dX11_takeNumber_138 : decode cX11_takeNumber 138 = .ok (.if_icmp .gt 18, 3) := by decide +kernel
theorem dX11_takeNumber_141 : decode cX11_takeNumber 141 = .ok (.aload_n 0, 1) := by decide +kernel
theorem dX11_takeNumber_142 : decode cX11_takeNumber 142 = .ok (.getfield 119, 3) := by decide +kernel
theorem dX11_takeNumber_145 : decode cX11_takeNumber 145 = .ok (.i2l, 1) := by decide +kernel
theorem dX11_takeNumber_146 : decode cX11_takeNumber 146 = .ok (.iload_n 1, 1) := by decide +kernel
theorem dX11_takeNumber_147 : decode cX11_takeNumber 147 = .ok (.i2l, 1) := by decide +kernel
theorem dX11_takeNumber_148 : decode cX11_takeNumber 148 = .ok (.iload_n 2, 1) := by decide +kernel
theorem dX11_takeNumber_149 : decode cX11_takeNumber 149 = .ok (.i2l, 1) := by decide +kernel
theorem dX11_takeNumber_150 : decode cX11_takeNumber 150 = .ok (.invokestatic 69, 3) := by decide +kernel
theorem dX11_takeNumber_153 : decode cX11_takeNumber 153 = .ok (.ifCond .ne 15, 3) := by decide +kernel
theorem dX11_takeNumber_156 : decode cX11_takeNumber 156 = .ok (.aload_n 0, 1) := by decide +kernel
theorem dX11_takeNumber_157 : decode cX11_takeNumber 157 = .ok (.iconst 2, 1) := by decide +kernel
theorem dX11_takeNumber_158 : decode cX11_takeNumber 158 = .ok (.aload_n 0, 1) := by decide +kernel
theorem dX11_takeNumber_159 : decode cX11_takeNumber 159 = .ok (.getfield 116, 3) := by decide +kernel
theorem dX11_takeNumber_162 : decode cX11_takeNumber 162 = .ok (.invokevirtual 112, 3) := by decide +kernel
theorem dX11_takeNumber_165 : decode cX11_takeNumber 165 = .ok (.goto 4, 3) := by decide +kernel
theorem dX11_takeNumber_168 : decode cX11_takeNumber 168 = .ok (.iconst 0, 1) := by decide +kernel
theorem dX11_takeNumber_169 : decode cX11_takeNumber 169 = .ok (.ireturn, 1) := by decide +kernel
def Mo_takeNumber_L42_b  (rec : gm_M → Option (gm_M)) (S7 : gm_M) : Option (gm_M) :=
  if S7.1 0 9 ≤ S7.1 0 11 then (
    some (S7)
  ) else (
    gm_ck (S7.1 0 11) 240 <|
    gm_bp1 (Mo_in ((S7.1 3 (S7.1 0 11).toNatClampNeg : Int32).toInt64) 48 57) fun v11 =>
    if v11 = 0 then (
      some (S7)
    ) else (
      gm_bp1 (show Option (Int32) from
        if S7.1 0 12 ≤ 100000 then (
          gm_ck (S7.1 0 11) 240 <|
          some (((10 * (S7.1 0 12)) + (S7.1 3 (S7.1 0 11).toNatClampNeg)) - 48)
        ) else (
          some (S7.1 0 12)
        )
      ) fun x13 =>
      gm_lt (α := gm_M) (gm_ui S7 0 12 x13) fun S14 =>
      gm_lt (α := gm_M) (gm_ui S14 0 11 ((S14.1 0 11) + 1)) fun S15 =>
      rec S15
    )
  )
def Mo_takeNumber_L42  : Nat → gm_M → Option (gm_M)
  | 0 => fun _ => none
  | n + 1 => Mo_takeNumber_L42_b  (Mo_takeNumber_L42  n)
def Mo_takeNumber (fl : Nat) (a0 : Int32) (a1 : Int32) (S : gm_M) : Option (Int32 × gm_M) :=
  gm_bp2 (Mo_here fl S) fun v1 S2 =>
  gm_bp1 (Mo_in ((v1 : Int32).toInt64) 48 57) fun v3 =>
  if v3 = 0 then (
    gm_bp2 (Mo_fails 1 (S2.1 0 11) S2) fun v25 S26 =>
    some (v25, S26)
  ) else (
    gm_lt (α := gm_M) (gm_ui S2 0 13 (S2.1 0 11)) fun S5 =>
    gm_lt (α := gm_M) (gm_ui S5 0 12 0) fun S6 =>
    gm_bp1 (Mo_takeNumber_L42  fl S6) fun S8 =>
    if (4 : Int32) < (S8.1 0 11) - (S8.1 0 13) then (
      gm_bp2 (Mo_fails 2 (S8.1 0 13) S8) fun v19 S20 =>
      some (v19, S20)
    ) else (
      gm_bp1 (Mo_in ((S8.1 0 12 : Int32).toInt64) ((a0 : Int32).toInt64) ((a1 : Int32).toInt64)) fun v21 =>
      if v21 = 0 then (
        gm_bp2 (Mo_fails 2 (S8.1 0 13) S8) fun v23 S24 =>
        some (v23, S24)
      ) else (
        some (0, S8)
      )
    )
  )
set_option maxHeartbeats 4000000 in
set_option maxRecDepth 100000 in
theorem Mo_takeNumber_c (l : Launch) (cf : gm_C) (ad : Nat → Nat) {fl : Nat}   {a0 : Int32} {a1 : Int32} {S : gm_M} {r : Int32} {S'  : gm_M} (hf : Mo_takeNumber fl a0 a1 S = some (r, S')) : gm_Met l yX11_takeNumber cX11_takeNumber 4 (some .int) 1 25 cf ad gm_sM 17 [.ref (ad 0), .int a0, .int a1] S (some (.int r)) S' := by
  refine gm_met (by decide +kernel) (Nat.le_of_ble_eq_true rfl) ?_
  intro p e s m args below meth c C hr
  have C : gm_F p s m args meth c cf ad 17 cX11_takeNumber 4 RX11 := C
  refine gm_lve (lv' := [(0, .ref (ad 0)), (1, .int a0), (2, .int a1)]) rfl ?_
  unfold Mo_takeNumber at hf
  refine gm_aload_n C dX11_takeNumber_0 rfl 0 rfl ?_
  obtain ⟨v1, S2, eS2, hf⟩ := gm_bp2_s hf
  refine gm_callVi (As := []) C (Mo_here_c l cf ad eS2) (Nat.le_of_ble_eq_true rfl) rfl kc_11 wy_Mo_here rfl wl_966 rfl ⟨(Nat.le_of_ble_eq_true rfl), (Nat.le_of_ble_eq_true rfl)⟩ rfl (Nat.le_of_ble_eq_true rfl) dX11_takeNumber_1 ?_
  refine gm_istore_n (lv' := [(3, .int v1), (0, .ref (ad 0)), (1, .int a0), (2, .int a1)]) C dX11_takeNumber_4 rfl (by decide) rfl ?_
  refine gm_iload_n C dX11_takeNumber_5 rfl 0 rfl ?_
  refine gm_i2l C dX11_takeNumber_6 rfl ?_
  refine gm_ldc2 (v := 48) C wl_994 dX11_takeNumber_7 ?_
  refine gm_ldc2 (v := 57) C wl_995 dX11_takeNumber_10 ?_
  obtain ⟨v3, ev3, hf⟩ := gm_bp1_s hf
  refine gm_callSi (As := [.long ((v1 : Int32).toInt64), .long 48, .long 57]) C (Mo_in_c l cf ad ev3 (S := S2)) wy_Mo_in wl_957 rfl ⟨(Nat.le_of_ble_eq_true rfl), (Nat.le_of_ble_eq_true rfl)⟩ rfl (Nat.le_of_ble_eq_true rfl) dX11_takeNumber_13 ?_
  refine gm_if_ne C 29 dX11_takeNumber_16 (by decide) (fun c4 => ?_) (fun c4 => ?_)
  · have hf := gm_if _ c4 hf
    refine gm_aload_n C dX11_takeNumber_29 rfl 1 rfl ?_
    refine gm_aload_n C dX11_takeNumber_30 rfl 1 rfl ?_
    refine gm_geti C (Nat.le_of_ble_eq_true rfl) rfl kc_11 (k := 11) rfl (by decide) rfl wl_851 dX11_takeNumber_31 ?_
    refine gm_puti C (Nat.le_of_ble_eq_true rfl) rfl kc_11 (k := 13) rfl (by decide) rfl rfl (kc_11.2.2.2.1 13 (by decide)) rfl rfl wl_853 dX11_takeNumber_34 ?_
    obtain ⟨S5, eS5, hf⟩ := gm_lt_s hf
    refine gm_topm eS5 ?_
    refine gm_aload_n C dX11_takeNumber_37 rfl 1 rfl ?_
    refine gm_iconst (v := 0) C dX11_takeNumber_38 (by decide) ?_
    refine gm_puti C (Nat.le_of_ble_eq_true rfl) rfl kc_11 (k := 12) rfl (by decide) rfl rfl (kc_11.2.2.2.1 12 (by decide)) rfl rfl wl_852 dX11_takeNumber_39 ?_
    obtain ⟨S6, eS6, hf⟩ := gm_lt_s hf
    refine gm_topm eS6 ?_
    have L42 : ∀ (n : Nat) (S7 : gm_M) (S8 : gm_M), Mo_takeNumber_L42  n S7 = some (S8) → gm_G p l e { frames := 1, cells := 0, slots := 0, locals := 25 } s m args below meth c (MQ below (gm_Q cf ad gm_sM 17 (some (.int r)) S') args s 0 0 (gm_A ad 17)) cf ad gm_sM 17 4 S8 128 [(0, .ref (ad 0)), (1, .int a0), (2, .int a1)] [] → gm_G p l e { frames := 1, cells := 0, slots := 0, locals := 25 } s m args below meth c (MQ below (gm_Q cf ad gm_sM 17 (some (.int r)) S') args s 0 0 (gm_A ad 17)) cf ad gm_sM 17 4 S7 42 [(0, .ref (ad 0)), (1, .int a0), (2, .int a1)] [] := by
      intro n
      induction n with
      | zero => intro S7 S8 hf K; cases (show (none : Option _) = some _ from hf)
      | succ n ih =>
        intro S7 S8 hf K
        have hf : Mo_takeNumber_L42_b  (Mo_takeNumber_L42  n) S7 = some (S8) := hf
        unfold Mo_takeNumber_L42_b at hf
        refine gm_aload_n C dX11_takeNumber_42 rfl 0 rfl ?_
        refine gm_geti C (Nat.le_of_ble_eq_true rfl) rfl kc_11 (k := 11) rfl (by decide) rfl wl_851 dX11_takeNumber_43 ?_
        refine gm_aload_n C dX11_takeNumber_46 rfl 0 rfl ?_
        refine gm_geti C (Nat.le_of_ble_eq_true rfl) rfl kc_11 (k := 9) rfl (by decide) rfl wl_849 dX11_takeNumber_47 ?_
        refine gm_icmp_ge C 128 dX11_takeNumber_50 (by decide) (fun c9 => ?_) (fun c9 => ?_)
        · have hf := gm_it _ c9 hf
          cases hf
          exact gm_lvp [0, 1, 2] rfl K
        · have hf := gm_if _ c9 hf
          refine gm_aload_n C dX11_takeNumber_53 rfl 0 rfl ?_
          refine gm_getr (j := 3) (u := 3) C (Nat.le_of_ble_eq_true rfl) rfl kc_11 (k := 8) rfl (by decide) rfl rfl wl_848 dX11_takeNumber_54 ?_
          refine gm_aload_n C dX11_takeNumber_57 rfl 0 rfl ?_
          refine gm_geti C (Nat.le_of_ble_eq_true rfl) rfl kc_11 (k := 11) rfl (by decide) rfl wl_851 dX11_takeNumber_58 ?_
          obtain ⟨h10, hf⟩ := gm_ck_s hf
          refine gm_iald C (Nat.le_of_ble_eq_true rfl) rfl rfl h10 dX11_takeNumber_61 ?_
          refine gm_i2l C dX11_takeNumber_62 rfl ?_
          refine gm_ldc2 (v := 48) C wl_994 dX11_takeNumber_63 ?_
          refine gm_ldc2 (v := 57) C wl_995 dX11_takeNumber_66 ?_
          obtain ⟨v11, ev11, hf⟩ := gm_bp1_s hf
          refine gm_callSi (As := [.long ((S7.1 3 (S7.1 0 11).toNatClampNeg : Int32).toInt64), .long 48, .long 57]) C (Mo_in_c l cf ad ev11 (S := S7)) wy_Mo_in wl_957 rfl ⟨(Nat.le_of_ble_eq_true rfl), (Nat.le_of_ble_eq_true rfl)⟩ rfl (Nat.le_of_ble_eq_true rfl) dX11_takeNumber_69 ?_
          refine gm_if_eq C 128 dX11_takeNumber_72 (by decide) (fun c12 => ?_) (fun c12 => ?_)
          · have hf := gm_it _ c12 hf
            cases hf
            exact gm_lvp [0, 1, 2] rfl K
          · have hf := gm_if _ c12 hf
            refine gm_aload_n C dX11_takeNumber_75 rfl 0 rfl ?_
            refine gm_aload_n C dX11_takeNumber_76 rfl 0 rfl ?_
            refine gm_geti C (Nat.le_of_ble_eq_true rfl) rfl kc_11 (k := 12) rfl (by decide) rfl wl_852 dX11_takeNumber_77 ?_
            refine gm_ldc (v := 100000) C wl_996 dX11_takeNumber_80 ?_
            obtain ⟨x13, hx, hf⟩ := gm_bp1_s hf
            have key : gm_G p l e { frames := 1, cells := 0, slots := 0, locals := 25 } s m args below meth c (MQ below (gm_Q cf ad gm_sM 17 (some (.int r)) S') args s 0 0 (gm_A ad 17)) cf ad gm_sM 17 4 S7 112 [(0, .ref (ad 0)), (1, .int a0), (2, .int a1)] [.int x13, .ref (ad 0)] := by
              refine gm_puti C (Nat.le_of_ble_eq_true rfl) rfl kc_11 (k := 12) rfl (by decide) rfl rfl (kc_11.2.2.2.1 12 (by decide)) rfl rfl wl_852 dX11_takeNumber_112 ?_
              obtain ⟨S14, eS14, hf⟩ := gm_lt_s hf
              refine gm_topm eS14 ?_
              refine gm_aload_n C dX11_takeNumber_115 rfl 0 rfl ?_
              refine gm_dup C dX11_takeNumber_116 rfl ?_
              refine gm_geti C (Nat.le_of_ble_eq_true rfl) rfl kc_11 (k := 11) rfl (by decide) rfl wl_851 dX11_takeNumber_117 ?_
              refine gm_iconst (v := 1) C dX11_takeNumber_120 (by decide) ?_
              refine gm_iadd C dX11_takeNumber_121 ?_
              refine gm_puti C (Nat.le_of_ble_eq_true rfl) rfl kc_11 (k := 11) rfl (by decide) rfl rfl (kc_11.2.2.2.1 11 (by decide)) rfl rfl wl_851 dX11_takeNumber_122 ?_
              obtain ⟨S15, eS15, hf⟩ := gm_lt_s hf
              refine gm_topm eS15 ?_
              refine gm_goto C 42 dX11_takeNumber_125 (by decide) ?_
              exact gm_lvp [0, 1, 2] rfl (ih _ _ hf K)
            have hf := hx
            refine gm_icmp_le C 92 dX11_takeNumber_82 (by decide) (fun c16 => ?_) (fun c16 => ?_)
            · have hf := gm_it _ c16 hf
              refine gm_bipush (v := 10) C dX11_takeNumber_92 (by decide) ?_
              refine gm_aload_n C dX11_takeNumber_94 rfl 0 rfl ?_
              refine gm_geti C (Nat.le_of_ble_eq_true rfl) rfl kc_11 (k := 12) rfl (by decide) rfl wl_852 dX11_takeNumber_95 ?_
              refine gm_imul C dX11_takeNumber_98 ?_
              refine gm_aload_n C dX11_takeNumber_99 rfl 0 rfl ?_
              refine gm_getr (j := 3) (u := 3) C (Nat.le_of_ble_eq_true rfl) rfl kc_11 (k := 8) rfl (by decide) rfl rfl wl_848 dX11_takeNumber_100 ?_
              refine gm_aload_n C dX11_takeNumber_103 rfl 0 rfl ?_
              refine gm_geti C (Nat.le_of_ble_eq_true rfl) rfl kc_11 (k := 11) rfl (by decide) rfl wl_851 dX11_takeNumber_104 ?_
              obtain ⟨h17, hf⟩ := gm_ck_s hf
              refine gm_iald C (Nat.le_of_ble_eq_true rfl) rfl rfl h17 dX11_takeNumber_107 ?_
              refine gm_iadd C dX11_takeNumber_108 ?_
              refine gm_bipush (v := 48) C dX11_takeNumber_109 (by decide) ?_
              refine gm_isub C dX11_takeNumber_111 ?_
              cases hf
              exact gm_lvp [0, 1, 2] rfl key
            · have hf := gm_if _ c16 hf
              refine gm_aload_n C dX11_takeNumber_85 rfl 0 rfl ?_
              refine gm_geti C (Nat.le_of_ble_eq_true rfl) rfl kc_11 (k := 12) rfl (by decide) rfl wl_852 dX11_takeNumber_86 ?_
              refine gm_goto C 112 dX11_takeNumber_89 (by decide) ?_
              cases hf
              exact gm_lvp [0, 1, 2] rfl key
    obtain ⟨S8, hx, hf⟩ := gm_bp1_s hf
    refine gm_lvp [1, 2, 3] rfl (L42 fl _ _ hx ?_)
    refine gm_aload_n C dX11_takeNumber_128 rfl 0 rfl ?_
    refine gm_geti C (Nat.le_of_ble_eq_true rfl) rfl kc_11 (k := 11) rfl (by decide) rfl wl_851 dX11_takeNumber_129 ?_
    refine gm_aload_n C dX11_takeNumber_132 rfl 0 rfl ?_
    refine gm_geti C (Nat.le_of_ble_eq_true rfl) rfl kc_11 (k := 13) rfl (by decide) rfl wl_853 dX11_takeNumber_133 ?_
    refine gm_isub C dX11_takeNumber_136 ?_
    refine gm_iconst (v := 4) C dX11_takeNumber_137 (by decide) ?_
    refine gm_icmp_gt C 156 dX11_takeNumber_138 (by decide) (fun c18 => ?_) (fun c18 => ?_)
    · have hf := gm_it _ c18 hf
      refine gm_aload_n C dX11_takeNumber_156 rfl 0 rfl ?_
      refine gm_iconst (v := 2) C dX11_takeNumber_157 (by decide) ?_
      refine gm_aload_n C dX11_takeNumber_158 rfl 0 rfl ?_
      refine gm_geti C (Nat.le_of_ble_eq_true rfl) rfl kc_11 (k := 13) rfl (by decide) rfl wl_853 dX11_takeNumber_159 ?_
      obtain ⟨v19, S20, eS20, hf⟩ := gm_bp2_s hf
      refine gm_callVi (As := [.int 2, .int (S8.1 0 13)]) C (Mo_fails_c l cf ad eS20) (Nat.le_of_ble_eq_true rfl) rfl kc_11 wy_Mo_fails rfl wl_974 rfl ⟨(Nat.le_of_ble_eq_true rfl), (Nat.le_of_ble_eq_true rfl)⟩ rfl (Nat.le_of_ble_eq_true rfl) dX11_takeNumber_162 ?_
      refine gm_goto C 169 dX11_takeNumber_165 (by decide) ?_
      exact gm_iret C hr rfl dX11_takeNumber_169 hf
    · have hf := gm_if _ c18 hf
      refine gm_aload_n C dX11_takeNumber_141 rfl 0 rfl ?_
      refine gm_geti C (Nat.le_of_ble_eq_true rfl) rfl kc_11 (k := 12) rfl (by decide) rfl wl_852 dX11_takeNumber_142 ?_
      refine gm_i2l C dX11_takeNumber_145 rfl ?_
      refine gm_iload_n C dX11_takeNumber_146 rfl 1 rfl ?_
      refine gm_i2l C dX11_takeNumber_147 rfl ?_
      refine gm_iload_n C dX11_takeNumber_148 rfl 2 rfl ?_
      refine gm_i2l C dX11_takeNumber_149 rfl ?_
      obtain ⟨v21, ev21, hf⟩ := gm_bp1_s hf
      refine gm_callSi (As := [.long ((S8.1 0 12 : Int32).toInt64), .long ((a0 : Int32).toInt64), .long ((a1 : Int32).toInt64)]) C (Mo_in_c l cf ad ev21 (S := S8)) wy_Mo_in wl_957 rfl ⟨(Nat.le_of_ble_eq_true rfl), (Nat.le_of_ble_eq_true rfl)⟩ rfl (Nat.le_of_ble_eq_true rfl) dX11_takeNumber_150 ?_
      refine gm_if_ne C 168 dX11_takeNumber_153 (by decide) (fun c22 => ?_) (fun c22 => ?_)
      · have hf := gm_if _ c22 hf
        refine gm_iconst (v := 0) C dX11_takeNumber_168 (by decide) ?_
        exact gm_iret C hr rfl dX11_takeNumber_169 hf
      · have hf := gm_it _ c22 hf
        refine gm_aload_n C dX11_takeNumber_156 rfl 0 rfl ?_
        refine gm_iconst (v := 2) C dX11_takeNumber_157 (by decide) ?_
        refine gm_aload_n C dX11_takeNumber_158 rfl 0 rfl ?_
        refine gm_geti C (Nat.le_of_ble_eq_true rfl) rfl kc_11 (k := 13) rfl (by decide) rfl wl_853 dX11_takeNumber_159 ?_
        obtain ⟨v23, S24, eS24, hf⟩ := gm_bp2_s hf
        refine gm_callVi (As := [.int 2, .int (S8.1 0 13)]) C (Mo_fails_c l cf ad eS24) (Nat.le_of_ble_eq_true rfl) rfl kc_11 wy_Mo_fails rfl wl_974 rfl ⟨(Nat.le_of_ble_eq_true rfl), (Nat.le_of_ble_eq_true rfl)⟩ rfl (Nat.le_of_ble_eq_true rfl) dX11_takeNumber_162 ?_
        refine gm_goto C 169 dX11_takeNumber_165 (by decide) ?_
        exact gm_iret C hr rfl dX11_takeNumber_169 hf
  · have hf := gm_it _ c4 hf
    refine gm_aload_n C dX11_takeNumber_19 rfl 1 rfl ?_
    refine gm_iconst (v := 1) C dX11_takeNumber_20 (by decide) ?_
    refine gm_aload_n C dX11_takeNumber_21 rfl 1 rfl ?_
    refine gm_geti C (Nat.le_of_ble_eq_true rfl) rfl kc_11 (k := 11) rfl (by decide) rfl wl_851 dX11_takeNumber_22 ?_
    obtain ⟨v25, S26, eS26, hf⟩ := gm_bp2_s hf
    refine gm_callVi (As := [.int 1, .int (S2.1 0 11)]) C (Mo_fails_c l cf ad eS26) (Nat.le_of_ble_eq_true rfl) rfl kc_11 wy_Mo_fails rfl wl_974 rfl ⟨(Nat.le_of_ble_eq_true rfl), (Nat.le_of_ble_eq_true rfl)⟩ rfl (Nat.le_of_ble_eq_true rfl) dX11_takeNumber_25 ?_
    exact gm_iret C hr rfl dX11_takeNumber_28 hf
theorem dX11_takeFigures_0 : decode cX11_takeFigures 0 = .ok (.aload_n 0, 1) := by decide +kernel
theorem dX11_takeFigures_1 : decode cX11_takeFigures 1 = .ok (.iconst 2, 1) := by decide +kernel
theorem dX11_takeFigures_2 : decode cX11_takeFigures 2 = .ok (.iconst 4, 1) := by decide +kernel
theorem dX11_takeFigures_3 : decode cX11_takeFigures 3 = .ok (.invokevirtual 123, 3) := by decide +kernel
theorem dX11_takeFigures_6 : decode cX11_takeFigures 6 = .ok (.istore_n 1, 1) := by decide +kernel
theorem dX11_takeFigures_7 : decode cX11_takeFigures 7 = .ok (.aload_n 0, 1) := by decide +kernel
theorem dX11_takeFigures_8 : decode cX11_takeFigures 8 = .ok (.aload_n 0, 1) := by decide +kernel
theorem dX11_takeFigures_9 : decode cX11_takeFigures 9 = .ok (.getfield 119, 3) := by decide +kernel
theorem dX11_takeFigures_12 : decode cX11_takeFigures 12 = .ok (.putfield 126, 3) := by decide +kernel
theorem dX11_takeFigures_15 : decode cX11_takeFigures 15 = .ok (.aload_n 0, 1) := by decide +kernel
theorem dX11_takeFigures_16 : decode cX11_takeFigures 16 = .ok (.aload_n 0, 1) := by decide +kernel
theorem dX11_takeFigures_17 : decode cX11_takeFigures 17 = .ok (.getfield 119, 3) := by decide +kernel
theorem dX11_takeFigures_20 : decode cX11_takeFigures 20 = .ok (.iconst 2, 1) := by decide +kernel
theorem dX11_takeFigures_21 : decode cX11_takeFigures 21 = .ok (.if_icmp .ne 8, 3) := by decide +kernel
theorem dX11_takeFigures_24 : decode cX11_takeFigures 24 = .ok (.bipush 99, 2) := by decide +kernel
theorem dX11_takeFigures_26 : decode cX11_takeFigures 26 = .ok (.goto 20, 3) := by decide +kernel
theorem dX11_takeFigures_29 : decode cX11_takeFigures 29 = .ok (.aload_n 0, 1) := by decide +kernel
theorem dX11_takeFigures_30 : decode cX11_takeFigures 30 = .ok (.getfield 119, 3) := by decide +kernel
theorem dX11_takeFigures_33 : decode cX11_takeFigures 33 = .ok (.iconst 3, 1) := by decide +kernel
theorem dX11_takeFigures_34 : decode cX11_takeFigures 34 = .ok (.if_icmp .ne 9, 3) := by decide +kernel
theorem dX11_takeFigures_37 : decode cX11_takeFigures 37 = .ok (.sipush 999, 3) := by decide +kernel
theorem dX11_takeFigures_40 : decode cX11_takeFigures 40 = .ok (.goto 6, 3) := by decide +kernel
theorem dX11_takeFigures_43 : decode cX11_takeFigures 43 = .ok (.sipush 9999, 3) := by decide +kernel
theorem dX11_takeFigures_46 : decode cX11_takeFigures 46 = .ok (.putfield 129, 3) := by decide +kernel
theorem dX11_takeFigures_49 : decode cX11_takeFigures 49 = .ok (.iload_n 1, 1) := by decide +kernel
theorem dX11_takeFigures_50 : decode cX11_takeFigures 50 = .ok (.ireturn, 1) := by decide +kernel
def Mo_takeFigures (fl : Nat) (S : gm_M) : Option (Int32 × gm_M) :=
  gm_bp2 (Mo_takeNumber fl 2 4 S) fun v1 S2 =>
  gm_lt (α := gm_M) (gm_ui S2 0 14 (S2.1 0 12)) fun S3 =>
  if S3.1 0 12 = 2 then (
    gm_lt (α := gm_M) (gm_ui S3 0 15 99) fun S8 =>
    some (v1, S8)
  ) else (
    if S3.1 0 12 = 3 then (
      gm_lt (α := gm_M) (gm_ui S3 0 15 999) fun S7 =>
      some (v1, S7)
    ) else (
      gm_lt (α := gm_M) (gm_ui S3 0 15 9999) fun S6 =>
      some (v1, S6)
    )
  )
set_option maxHeartbeats 4000000 in
set_option maxRecDepth 100000 in
theorem Mo_takeFigures_c (l : Launch) (cf : gm_C) (ad : Nat → Nat) {fl : Nat}    {S : gm_M} {r : Int32} {S'  : gm_M} (hf : Mo_takeFigures fl S = some (r, S')) : gm_Met l yX11_takeFigures cX11_takeFigures 2 (some .int) 2 48 cf ad gm_sM 17 [.ref (ad 0)] S (some (.int r)) S' := by
  refine gm_met (by decide +kernel) (Nat.le_of_ble_eq_true rfl) ?_
  intro p e s m args below meth c C hr
  have C : gm_F p s m args meth c cf ad 17 cX11_takeFigures 2 RX11 := C
  refine gm_lve (lv' := [(0, .ref (ad 0))]) rfl ?_
  unfold Mo_takeFigures at hf
  refine gm_aload_n C dX11_takeFigures_0 rfl 0 rfl ?_
  refine gm_iconst (v := 2) C dX11_takeFigures_1 (by decide) ?_
  refine gm_iconst (v := 4) C dX11_takeFigures_2 (by decide) ?_
  obtain ⟨v1, S2, eS2, hf⟩ := gm_bp2_s hf
  refine gm_callVi (As := [.int 2, .int 4]) C (Mo_takeNumber_c l cf ad eS2) (Nat.le_of_ble_eq_true rfl) rfl kc_11 wy_Mo_takeNumber rfl wl_990 rfl ⟨(Nat.le_of_ble_eq_true rfl), (Nat.le_of_ble_eq_true rfl)⟩ rfl (Nat.le_of_ble_eq_true rfl) dX11_takeFigures_3 ?_
  refine gm_istore_n (lv' := [(1, .int v1), (0, .ref (ad 0))]) C dX11_takeFigures_6 rfl (by decide) rfl ?_
  refine gm_aload_n C dX11_takeFigures_7 rfl 1 rfl ?_
  refine gm_aload_n C dX11_takeFigures_8 rfl 1 rfl ?_
  refine gm_geti C (Nat.le_of_ble_eq_true rfl) rfl kc_11 (k := 12) rfl (by decide) rfl wl_852 dX11_takeFigures_9 ?_
  refine gm_puti C (Nat.le_of_ble_eq_true rfl) rfl kc_11 (k := 14) rfl (by decide) rfl rfl (kc_11.2.2.2.1 14 (by decide)) rfl rfl wl_854 dX11_takeFigures_12 ?_
  obtain ⟨S3, eS3, hf⟩ := gm_lt_s hf
  refine gm_topm eS3 ?_
  refine gm_aload_n C dX11_takeFigures_15 rfl 1 rfl ?_
  refine gm_aload_n C dX11_takeFigures_16 rfl 1 rfl ?_
  refine gm_geti C (Nat.le_of_ble_eq_true rfl) rfl kc_11 (k := 12) rfl (by decide) rfl wl_852 dX11_takeFigures_17 ?_
  refine gm_iconst (v := 2) C dX11_takeFigures_20 (by decide) ?_
  refine gm_icmp_ne C 29 dX11_takeFigures_21 (by decide) (fun c4 => ?_) (fun c4 => ?_)
  · have hf := gm_if _ c4 hf
    refine gm_aload_n C dX11_takeFigures_29 rfl 1 rfl ?_
    refine gm_geti C (Nat.le_of_ble_eq_true rfl) rfl kc_11 (k := 12) rfl (by decide) rfl wl_852 dX11_takeFigures_30 ?_
    refine gm_iconst (v := 3) C dX11_takeFigures_33 (by decide) ?_
    refine gm_icmp_ne C 43 dX11_takeFigures_34 (by decide) (fun c5 => ?_) (fun c5 => ?_)
    · have hf := gm_if _ c5 hf
      refine gm_sipush (v := 9999) C dX11_takeFigures_43 (by decide) ?_
      refine gm_puti C (Nat.le_of_ble_eq_true rfl) rfl kc_11 (k := 15) rfl (by decide) rfl rfl (kc_11.2.2.2.1 15 (by decide)) rfl rfl wl_855 dX11_takeFigures_46 ?_
      obtain ⟨S6, eS6, hf⟩ := gm_lt_s hf
      refine gm_topm eS6 ?_
      refine gm_iload_n C dX11_takeFigures_49 rfl 0 rfl ?_
      exact gm_iret C hr rfl dX11_takeFigures_50 hf
    · have hf := gm_it _ c5 hf
      refine gm_sipush (v := 999) C dX11_takeFigures_37 (by decide) ?_
      refine gm_goto C 46 dX11_takeFigures_40 (by decide) ?_
      refine gm_puti C (Nat.le_of_ble_eq_true rfl) rfl kc_11 (k := 15) rfl (by decide) rfl rfl (kc_11.2.2.2.1 15 (by decide)) rfl rfl wl_855 dX11_takeFigures_46 ?_
      obtain ⟨S7, eS7, hf⟩ := gm_lt_s hf
      refine gm_topm eS7 ?_
      refine gm_iload_n C dX11_takeFigures_49 rfl 0 rfl ?_
      exact gm_iret C hr rfl dX11_takeFigures_50 hf
  · have hf := gm_it _ c4 hf
    refine gm_bipush (v := 99) C dX11_takeFigures_24 (by decide) ?_
    refine gm_goto C 46 dX11_takeFigures_26 (by decide) ?_
    refine gm_puti C (Nat.le_of_ble_eq_true rfl) rfl kc_11 (k := 15) rfl (by decide) rfl rfl (kc_11.2.2.2.1 15 (by decide)) rfl rfl wl_855 dX11_takeFigures_46 ?_
    obtain ⟨S8, eS8, hf⟩ := gm_lt_s hf
    refine gm_topm eS8 ?_
    refine gm_iload_n C dX11_takeFigures_49 rfl 0 rfl ?_
    exact gm_iret C hr rfl dX11_takeFigures_50 hf
