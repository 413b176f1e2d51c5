theorem dX10_lucky_0 : decode cX10_lucky 0 = .ok (.aload_n 0, 1) := by decide +kernel
theorem dX10_lucky_1 : decode cX10_lucky 1 = .ok (.getfield 19, 3) := by decide +kernel
theorem dX10_lucky_4 : decode cX10_lucky 4 = .ok (.iload_n 1, 1) := by decide +kernel
theorem dX10_lucky_5 : decode cX10_lucky 5 = .ok (.invokevirtual 192, 3) := by decide +kernel
theorem dX10_lucky_8 : decode cX10_lucky 8 = .ok (.ifCond .eq 12, 3) := by decide +kernel
theorem dX10_lucky_11 : decode cX10_lucky 11 = .ok (.iload_n 2, 1) := by decide +kernel
theorem dX10_lucky_12 : decode cX10_lucky 12 = .ok (.ifCond .lt 8, 3) := by decide +kernel
theorem dX10_lucky_15 : decode cX10_lucky 15 = .ok (.iload_n 2, 1) := by decide +kernel
theorem dX10_lucky_16 : decode cX10_lucky 16 = .ok (.iconst 1, 1) := by decide +kernel
theorem dX10_lucky_17 : decode cX10_lucky 17 = .ok (.if_icmp .le 6, 3) := by decide +kernel
theorem dX10_lucky_20 : decode cX10_lucky 20 = .ok (.ldc 62, 2) := by decide +kernel
theorem dX10_lucky_22 : decode cX10_lucky 22 = .ok (.ireturn, 1) := by decide +kernel
theorem dX10_lucky_23 : decode cX10_lucky 23 = .ok (.iload_n 2, 1) := by decide +kernel
theorem dX10_lucky_24 : decode cX10_lucky 24 = .ok (.iconst 1, 1) := by decide +kernel
theorem dX10_lucky_25 : decode cX10_lucky 25 = .ok (.if_icmp .ne 12, 3) := by decide +kernel
theorem dX10_lucky_28 : decode cX10_lucky 28 = .ok (.aload_n 0, 1) := by decide +kernel
theorem dX10_lucky_29 : decode cX10_lucky 29 = .ok (.getfield 26, 3) := by decide +kernel
theorem dX10_lucky_32 : decode cX10_lucky 32 = .ok (.iload_n 1, 1) := by decide +kernel
theorem dX10_lucky_33 : decode cX10_lucky 33 = .ok (.invokevirtual 195, 3) := by decide +kernel
theorem dX10_lucky_36 : decode cX10_lucky 36 = .ok (.ireturn, 1) := by decide +kernel
theorem dX10_lucky_37 : decode cX10_lucky 37 = .ok (.aload_n 0, 1) := by decide +kernel
theorem dX10_lucky_38 : decode cX10_lucky 38 = .ok (.getfield 26, 3) := by decide +kernel
theorem dX10_lucky_41 : decode cX10_lucky 41 = .ok (.iload_n 1, 1) := by decide +kernel
theorem dX10_lucky_42 : decode cX10_lucky 42 = .ok (.invokevirtual 198, 3) := by decide +kernel
theorem dX10_lucky_45 : decode cX10_lucky 45 = .ok (.ifCond .eq 7, 3) := by decide +kernel
theorem dX10_lucky_48 : decode cX10_lucky 48 = .ok (.iconst 1, 1) := by decide +kernel
theorem dX10_lucky_49 : decode cX10_lucky 49 = .ok (.goto 4, 3) := by decide +kernel
theorem dX10_lucky_52 : decode cX10_lucky 52 = .ok (.iconst 0, 1) := by decide +kernel
theorem dX10_lucky_53 : decode cX10_lucky 53 = .ok (.ireturn, 1) := by decide +kernel
def Lt_lucky (fl : Nat) (a0 : Int32) (a1 : Int32) (S : gm_M) : Option Int32 :=
  gm_bp1 (Tr_hasNumber fl 8 a0 S) fun v1 =>
  if v1 = 0 then (
    some ((-1000000002))
  ) else (
    if a1 < 0 then (
      some ((-1000000002))
    ) else (
      if a1 ≤ 1 then (
        if a1 = 1 then (
          gm_bp1 (Tb_rulesSayingYes fl a0 S) fun v8 =>
          some (v8)
        ) else (
          gm_bp1 (Tb_isLucky a0 S) fun v6 =>
          if v6 = 0 then (
            some (0)
          ) else (
            some (1)
          )
        )
      ) else (
        some ((-1000000002))
      )
    )
  )
set_option maxHeartbeats 4000000 in
set_option maxRecDepth 100000 in
theorem Lt_lucky_c (l : Launch) (cf : gm_C) (ad : Nat → Nat) {fl : Nat}   {a0 : Int32} {a1 : Int32} {S : gm_M} {r : Int32}  (hf : Lt_lucky fl a0 a1 S = some r) : gm_Met l yX10_lucky cX10_lucky 3 (some .int) 2 43 cf ad gm_sC 106 [.ref (ad 0), .int a0, .int a1] S (some (.int r)) S := by
  refine gm_met (by decide +kernel) (Nat.le_of_ble_eq_true rfl) ?_
  intro p e s m args below meth c C hr
  have C : gm_F p s m args meth c cf ad 106 cX10_lucky 3 RX10 := C
  refine gm_lve (lv' := [(0, .ref (ad 0)), (1, .int a0), (2, .int a1)]) rfl ?_
  unfold Lt_lucky at hf
  refine gm_aload_n C dX10_lucky_0 rfl 0 rfl ?_
  refine gm_getr (j := 8) (u := 8) C (Nat.le_of_ble_eq_true rfl) rfl kc_10 (k := 1) rfl (by decide) rfl rfl wl_329 dX10_lucky_1 ?_
  refine gm_iload_n C dX10_lucky_4 rfl 1 rfl ?_
  obtain ⟨v1, ev1, hf⟩ := gm_bp1_s hf
  refine gm_callVi (As := [.int a0]) C (Tr_hasNumber_c l cf ad gm_tr_8 ev1) (Nat.le_of_ble_eq_true rfl) rfl kc_9 wy_Tr_hasNumber rfl wl_660 rfl ⟨(Nat.le_of_ble_eq_true rfl), (Nat.le_of_ble_eq_true rfl)⟩ rfl (Nat.le_of_ble_eq_true rfl) dX10_lucky_5 ?_
  refine gm_if_eq C 20 dX10_lucky_8 (by decide) (fun c2 => ?_) (fun c2 => ?_)
  · have hf := gm_it _ c2 hf
    refine gm_ldc (v := (-1000000002)) C wl_360 dX10_lucky_20 ?_
    exact gm_iretK C hr rfl dX10_lucky_22 hf
  · have hf := gm_if _ c2 hf
    refine gm_iload_n C dX10_lucky_11 rfl 2 rfl ?_
    refine gm_if_lt C 20 dX10_lucky_12 (by decide) (fun c3 => ?_) (fun c3 => ?_)
    · have hf := gm_it _ c3 hf
      refine gm_ldc (v := (-1000000002)) C wl_360 dX10_lucky_20 ?_
      exact gm_iretK C hr rfl dX10_lucky_22 hf
    · have hf := gm_if _ c3 hf
      refine gm_iload_n C dX10_lucky_15 rfl 2 rfl ?_
      refine gm_iconst (v := 1) C dX10_lucky_16 (by decide) ?_
      refine gm_icmp_le C 23 dX10_lucky_17 (by decide) (fun c4 => ?_) (fun c4 => ?_)
      · have hf := gm_it _ c4 hf
        refine gm_iload_n C dX10_lucky_23 rfl 2 rfl ?_
        refine gm_iconst (v := 1) C dX10_lucky_24 (by decide) ?_
        refine gm_icmp_ne C 37 dX10_lucky_25 (by decide) (fun c5 => ?_) (fun c5 => ?_)
        · have hf := gm_if _ c5 hf
          refine gm_aload_n C dX10_lucky_37 rfl 0 rfl ?_
          refine gm_getr (j := 12) (u := 12) C (Nat.le_of_ble_eq_true rfl) rfl kc_10 (k := 2) rfl (by decide) rfl rfl wl_330 dX10_lucky_38 ?_
          refine gm_iload_n C dX10_lucky_41 rfl 1 rfl ?_
          obtain ⟨v6, ev6, hf⟩ := gm_bp1_s hf
          refine gm_callVi (As := [.int a0]) C (Tb_isLucky_c l cf ad ev6) (Nat.le_of_ble_eq_true rfl) rfl kc_3 wy_Tb_isLucky rfl wl_575 rfl ⟨(Nat.le_of_ble_eq_true rfl), (Nat.le_of_ble_eq_true rfl)⟩ rfl (Nat.le_of_ble_eq_true rfl) dX10_lucky_42 ?_
          refine gm_if_eq C 52 dX10_lucky_45 (by decide) (fun c7 => ?_) (fun c7 => ?_)
          · have hf := gm_it _ c7 hf
            refine gm_iconst (v := 0) C dX10_lucky_52 (by decide) ?_
            exact gm_iretK C hr rfl dX10_lucky_53 hf
          · have hf := gm_if _ c7 hf
            refine gm_iconst (v := 1) C dX10_lucky_48 (by decide) ?_
            refine gm_goto C 53 dX10_lucky_49 (by decide) ?_
            exact gm_iretK C hr rfl dX10_lucky_53 hf
        · have hf := gm_it _ c5 hf
          refine gm_aload_n C dX10_lucky_28 rfl 0 rfl ?_
          refine gm_getr (j := 12) (u := 12) C (Nat.le_of_ble_eq_true rfl) rfl kc_10 (k := 2) rfl (by decide) rfl rfl wl_330 dX10_lucky_29 ?_
          refine gm_iload_n C dX10_lucky_32 rfl 1 rfl ?_
          obtain ⟨v8, ev8, hf⟩ := gm_bp1_s hf
          refine gm_callVi (As := [.int a0]) C (Tb_rulesSayingYes_c l cf ad ev8) (Nat.le_of_ble_eq_true rfl) rfl kc_3 wy_Tb_rulesSayingYes rfl wl_664 rfl ⟨(Nat.le_of_ble_eq_true rfl), (Nat.le_of_ble_eq_true rfl)⟩ rfl (Nat.le_of_ble_eq_true rfl) dX10_lucky_33 ?_
          exact gm_iretK C hr rfl dX10_lucky_36 hf
      · have hf := gm_if _ c4 hf
        refine gm_ldc (v := (-1000000002)) C wl_360 dX10_lucky_20 ?_
        exact gm_iretK C hr rfl dX10_lucky_22 hf
theorem dX4_remember_0 : decode cX4_remember 0 = .ok (.aload_n 0, 1) := by decide +kernel
theorem dX4_remember_1 : decode cX4_remember 1 = .ok (.aload_n 0, 1) := by decide +kernel
theorem dX4_remember_2 : decode cX4_remember 2 = .ok (.getfield 18, 3) := by decide +kernel
theorem dX4_remember_5 : decode cX4_remember 5 = .ok (.iconst 1, 1) := by decide +kernel
theorem dX4_remember_6 : decode cX4_remember 6 = .ok (.iadd, 1) := by decide +kernel
theorem dX4_remember_7 : decode cX4_remember 7 = .ok (.bipush 16, 2) := by decide +kernel
theorem dX4_remember_9 : decode cX4_remember 9 = .ok (.if_icmp .ge 12, 3) := by decide +kernel
theorem dX4_remember_12 : decode cX4_remember 12 = .ok (.aload_n 0, 1) := by decide +kernel
theorem dX4_remember_13 : decode cX4_remember 13 = .ok (.getfield 18, 3) := by decide +kernel
theorem dX4_remember_16 : decode cX4_remember 16 = .ok (.iconst 1, 1) := by decide +kernel
theorem dX4_remember_17 : decode cX4_remember 17 = .ok (.iadd, 1) := by decide +kernel
theorem dX4_remember_18 : decode cX4_remember 18 = .ok (.goto 4, 3) := by decide +kernel
theorem dX4_remember_21 : decode cX4_remember 21 = .ok (.iconst 0, 1) := by decide +kernel
theorem dX4_remember_22 : decode cX4_remember 22 = .ok (.putfield 18, 3) := by decide +kernel
theorem dX4_remember_25 : decode cX4_remember 25 = .ok (.aload_n 0, 1) := by decide +kernel
theorem dX4_remember_26 : decode cX4_remember 26 = .ok (.getfield 11, 3) := by decide +kernel
theorem dX4_remember_29 : decode cX4_remember 29 = .ok (.aload_n 0, 1) := by decide +kernel
theorem dX4_remember_30 : decode cX4_remember 30 = .ok (.getfield 18, 3) := by decide +kernel
theorem dX4_remember_33 : decode cX4_remember 33 = .ok (.aaload, 1) := by decide +kernel
theorem dX4_remember_34 : decode cX4_remember 34 = .ok (.aload_n 1, 1) := by decide +kernel
theorem dX4_remember_35 : decode cX4_remember 35 = .ok (.invokevirtual 22, 3) := by decide +kernel
theorem dX4_remember_38 : decode cX4_remember 38 = .ok (.aload_n 0, 1) := by decide +kernel
theorem dX4_remember_39 : decode cX4_remember 39 = .ok (.bipush 16, 2) := by decide +kernel
theorem dX4_remember_41 : decode cX4_remember 41 = .ok (.aload_n 0, 1) := by decide +kernel
theorem dX4_remember_42 : decode cX4_remember 42 = .ok (.getfield 26, 3) := by decide +kernel
theorem dX4_remember_45 : decode cX4_remember 45 = .ok (.iconst 1, 1) := by decide +kernel
theorem dX4_remember_46 : decode cX4_remember 46 = .ok (.iadd, 1) := by decide +kernel
theorem dX4_remember_47 : decode cX4_remember 47 = .ok (.invokestatic 29, 3) := by decide +kernel
theorem dX4_remember_50 : decode cX4_remember 50 = .ok (.putfield 26, 3) := by decide +kernel
theorem dX4_remember_53 : decode cX4_remember 53 = .ok (.return_, 1) := by decide +kernel
def Ps_remember (S : gm_M) : Option gm_M :=
  gm_bp1 (show Option (Int32) from
    if (16 : Int32) ≤ (S.1 22 1) + 1 then (
      some (0)
    ) else (
      some ((S.1 22 1) + 1)
    )
  ) fun x1 =>
  gm_lt (α := gm_M) (gm_ui S 22 1 x1) fun S2 =>
  gm_ck (S2.1 22 1) 16 <|
  gm_bp1 (Tr_copyFrom (24 + 4 * (S2.1 22 1).toNatClampNeg) 8 S2) fun S5 =>
  gm_lt (α := Int32) (if (S5.1 22 2) + 1 < 16 then (S5.1 22 2) + 1 else 16) fun x6 =>
  gm_lt (α := gm_M) (gm_ui S5 22 2 x6) fun S7 =>
  some S7
set_option maxHeartbeats 4000000 in
set_option maxRecDepth 100000 in
theorem Ps_remember_c (l : Launch) (cf : gm_C) (ad : Nat → Nat)     {S : gm_M}  {S'  : gm_M} (hf : Ps_remember S = some S') : gm_Met l yX4_remember cX4_remember 2 none 2 61 cf ad gm_sC 106 [.ref (ad 22), .ref (ad 8)] S none S' := by
  refine gm_met (by decide +kernel) (Nat.le_of_ble_eq_true rfl) ?_
  intro p e s m args below meth c C hr
  have C : gm_F p s m args meth c cf ad 106 cX4_remember 2 RX4 := C
  refine gm_lve (lv' := [(0, .ref (ad 22)), (1, .ref (ad 8))]) rfl ?_
  unfold Ps_remember at hf
  refine gm_aload_n C dX4_remember_0 rfl 0 rfl ?_
  refine gm_aload_n C dX4_remember_1 rfl 0 rfl ?_
  refine gm_geti C (Nat.le_of_ble_eq_true rfl) rfl kc_4 (k := 1) rfl (by decide) rfl wl_245 dX4_remember_2 ?_
  refine gm_iconst (v := 1) C dX4_remember_5 (by decide) ?_
  refine gm_iadd C dX4_remember_6 ?_
  refine gm_bipush (v := 16) C dX4_remember_7 (by decide) ?_
  obtain ⟨x1, hx, hf⟩ := gm_bp1_s hf
  have key : gm_G p l e { frames := 2, cells := 0, slots := 0, locals := 61 } s m args below meth c (MQ below (gm_Q cf ad gm_sC 106 none S') args s 0 0 (gm_A ad 106)) cf ad gm_sC 106 2 S 22 [(0, .ref (ad 22)), (1, .ref (ad 8))] [.int x1, .ref (ad 22)] := by
    refine gm_puti C (Nat.le_of_ble_eq_true rfl) rfl kc_4 (k := 1) rfl (by decide) rfl rfl (kc_4.2.2.2.1 1 (by decide)) rfl rfl wl_245 dX4_remember_22 ?_
    obtain ⟨S2, eS2, hf⟩ := gm_lt_s hf
    refine gm_topm eS2 ?_
    refine gm_aload_n C dX4_remember_25 rfl 0 rfl ?_
    refine gm_getr (j := 1) (u := 23) C (Nat.le_of_ble_eq_true rfl) rfl kc_4 (k := 0) rfl (by decide) rfl rfl wl_244 dX4_remember_26 ?_
    refine gm_aload_n C dX4_remember_29 rfl 0 rfl ?_
    refine gm_geti C (Nat.le_of_ble_eq_true rfl) rfl kc_4 (k := 1) rfl (by decide) rfl wl_245 dX4_remember_30 ?_
    obtain ⟨h3, hf⟩ := gm_ck_s hf
    refine gm_aald (k := 5) C (Nat.le_of_ble_eq_true rfl) rfl (by decide) rfl rfl h3 dX4_remember_33 ?_
    have h4 := gm_of_tr h3
    refine gm_aload_n C dX4_remember_34 rfl 1 rfl ?_
    obtain ⟨S5, eS5, hf⟩ := gm_bp1_s hf
    refine gm_callVv (As := [.ref (ad 8)]) C (Tr_copyFrom_c l cf ad h4 gm_tr_8 eS5) (gm_tr_l0 h4) (gm_tr_k0 h4) kc_9 wy_Tr_copyFrom rfl wl_677 rfl ⟨(Nat.le_of_ble_eq_true rfl), (Nat.le_of_ble_eq_true rfl)⟩ rfl (Nat.le_of_ble_eq_true rfl) dX4_remember_35 ?_
    refine gm_aload_n C dX4_remember_38 rfl 0 rfl ?_
    refine gm_bipush (v := 16) C dX4_remember_39 (by decide) ?_
    refine gm_aload_n C dX4_remember_41 rfl 0 rfl ?_
    refine gm_geti C (Nat.le_of_ble_eq_true rfl) rfl kc_4 (k := 2) rfl (by decide) rfl wl_246 dX4_remember_42 ?_
    refine gm_iconst (v := 1) C dX4_remember_45 (by decide) ?_
    refine gm_iadd C dX4_remember_46 ?_
    refine gm_mmin C wl_678 wm_min.1 wm_min.2.1 wm_min.2.2 (Nat.le_of_ble_eq_true rfl) (Nat.le_of_ble_eq_true rfl) dX4_remember_47 ?_
    obtain ⟨x6, ex6, hf⟩ := gm_lt_s hf
    refine gm_topi ex6 ?_
    refine gm_puti C (Nat.le_of_ble_eq_true rfl) rfl kc_4 (k := 2) rfl (by decide) rfl rfl (kc_4.2.2.2.1 2 (by decide)) rfl rfl wl_246 dX4_remember_50 ?_
    obtain ⟨S7, eS7, hf⟩ := gm_lt_s hf
    refine gm_topm eS7 ?_
    exact gm_vret C hr dX4_remember_53 hf
  have hf := hx
  refine gm_icmp_ge C 21 dX4_remember_9 (by decide) (fun c8 => ?_) (fun c8 => ?_)
  · have hf := gm_it _ c8 hf
    refine gm_iconst (v := 0) C dX4_remember_21 (by decide) ?_
    cases hf
    exact gm_lvp [0, 1] rfl key
  · have hf := gm_if _ c8 hf
    refine gm_aload_n C dX4_remember_12 rfl 0 rfl ?_
    refine gm_geti C (Nat.le_of_ble_eq_true rfl) rfl kc_4 (k := 1) rfl (by decide) rfl wl_245 dX4_remember_13 ?_
    refine gm_iconst (v := 1) C dX4_remember_16 (by decide) ?_
    refine gm_iadd C dX4_remember_17 ?_
    refine gm_goto C 22 dX4_remember_18 (by decide) ?_
    cases hf
    exact gm_lvp [0, 1] rfl key
theorem dX9_takeTicket_0 : decode cX9_takeTicket 0 = .ok (.aload_n 0, 1) := by decide +kernel
theorem dX9_takeTicket_1 : decode cX9_takeTicket 1 = .ok (.iload_n 1, 1) := by decide +kernel
theorem dX9_takeTicket_2 : decode cX9_takeTicket 2 = .ok (.aload_n 0, 1) := by decide +kernel
theorem dX9_takeTicket_3 : decode cX9_takeTicket 3 = .ok (.aload_n 0, 1) := by decide +kernel
theorem dX9_takeTicket_4 : decode cX9_takeTicket 4 = .ok (.iload_n 1, 1) := by decide +kernel
theorem dX9_takeTicket_5 : decode cX9_takeTicket 5 = .ok (.invokevirtual 54, 3) := by decide +kernel
theorem dX9_takeTicket_8 : decode cX9_takeTicket 8 = .ok (.invokevirtual 58, 3) := by decide +kernel
theorem dX9_takeTicket_11 : decode cX9_takeTicket 11 = .ok (.aload_n 0, 1) := by decide +kernel
theorem dX9_takeTicket_12 : decode cX9_takeTicket 12 = .ok (.iload_n 1, 1) := by decide +kernel
theorem dX9_takeTicket_13 : decode cX9_takeTicket 13 = .ok (.invokevirtual 61, 3) := by decide +kernel
theorem dX9_takeTicket_16 : decode cX9_takeTicket 16 = .ok (.iconst 1, 1) := by decide +kernel
theorem dX9_takeTicket_17 : decode cX9_takeTicket 17 = .ok (.isub, 1) := by decide +kernel
theorem dX9_takeTicket_18 : decode cX9_takeTicket 18 = .ok (.invokevirtual 46, 3) := by decide +kernel
theorem dX9_takeTicket_21 : decode cX9_takeTicket 21 = .ok (.return_, 1) := by decide +kernel
def Tr_takeTicket (fl : Nat) (t : Nat) (a0 : Int32) (S : gm_M) : Option gm_M :=
  gm_bp1 (Tr_nextTicket t a0 S) fun v1 =>
  gm_bp1 (Tr_behind fl t v1 S) fun v2 =>
  gm_bp1 (Tr_ticketsLeft t a0 S) fun v3 =>
  gm_bp1 (Tr_putRoll t a0 v2 (v3 - 1) S) fun S4 =>
  some S4
set_option maxHeartbeats 4000000 in
set_option maxRecDepth 100000 in
theorem Tr_takeTicket_c (l : Launch) (cf : gm_C) (ad : Nat → Nat) {fl : Nat} {t : Nat} (ht : gm_isTr t) {a0 : Int32} {S : gm_M}  {S'  : gm_M} (hf : Tr_takeTicket fl t a0 S = some S') : gm_Met l yX9_takeTicket cX9_takeTicket 2 none 2 43 cf ad gm_sC 106 [.ref (ad t), .int a0] S none S' := by
  refine gm_met (by decide +kernel) (Nat.le_of_ble_eq_true rfl) ?_
  intro p e s m args below meth c C hr
  have C : gm_F p s m args meth c cf ad 106 cX9_takeTicket 2 RX9 := C
  refine gm_lve (lv' := [(0, .ref (ad t)), (1, .int a0)]) rfl ?_
  unfold Tr_takeTicket at hf
  refine gm_aload_n C dX9_takeTicket_0 rfl 0 rfl ?_
  refine gm_iload_n C dX9_takeTicket_1 rfl 1 rfl ?_
  refine gm_aload_n C dX9_takeTicket_2 rfl 0 rfl ?_
  refine gm_aload_n C dX9_takeTicket_3 rfl 0 rfl ?_
  refine gm_iload_n C dX9_takeTicket_4 rfl 1 rfl ?_
  obtain ⟨v1, ev1, hf⟩ := gm_bp1_s hf
  refine gm_callVi (As := [.int a0]) C (Tr_nextTicket_c l cf ad ht ev1) (gm_tr_l0 ht) (gm_tr_k0 ht) kc_9 wy_Tr_nextTicket rfl wl_687 rfl ⟨(Nat.le_of_ble_eq_true rfl), (Nat.le_of_ble_eq_true rfl)⟩ rfl (Nat.le_of_ble_eq_true rfl) dX9_takeTicket_5 ?_
  obtain ⟨v2, ev2, hf⟩ := gm_bp1_s hf
  refine gm_callVi (As := [.int v1]) C (Tr_behind_c l cf ad ht ev2) (gm_tr_l0 ht) (gm_tr_k0 ht) kc_9 wy_Tr_behind rfl wl_688 rfl ⟨(Nat.le_of_ble_eq_true rfl), (Nat.le_of_ble_eq_true rfl)⟩ rfl (Nat.le_of_ble_eq_true rfl) dX9_takeTicket_8 ?_
  refine gm_aload_n C dX9_takeTicket_11 rfl 0 rfl ?_
  refine gm_iload_n C dX9_takeTicket_12 rfl 1 rfl ?_
  obtain ⟨v3, ev3, hf⟩ := gm_bp1_s hf
  refine gm_callVi (As := [.int a0]) C (Tr_ticketsLeft_c l cf ad ht ev3) (gm_tr_l0 ht) (gm_tr_k0 ht) kc_9 wy_Tr_ticketsLeft rfl wl_689 rfl ⟨(Nat.le_of_ble_eq_true rfl), (Nat.le_of_ble_eq_true rfl)⟩ rfl (Nat.le_of_ble_eq_true rfl) dX9_takeTicket_13 ?_
  refine gm_iconst (v := 1) C dX9_takeTicket_16 (by decide) ?_
  refine gm_isub C dX9_takeTicket_17 ?_
  obtain ⟨S4, eS4, hf⟩ := gm_bp1_s hf
  refine gm_callVv (As := [.int a0, .int v2, .int (v3 - 1)]) C (Tr_putRoll_c l cf ad ht eS4) (gm_tr_l0 ht) (gm_tr_k0 ht) kc_9 wy_Tr_putRoll rfl wl_457 rfl ⟨(Nat.le_of_ble_eq_true rfl), (Nat.le_of_ble_eq_true rfl)⟩ rfl (Nat.le_of_ble_eq_true rfl) dX9_takeTicket_18 ?_
  exact gm_vret C hr dX9_takeTicket_21 hf
theorem dX9_countOneMore_0 : decode cX9_countOneMore 0 = .ok (.iload_n 1, 1) := by decide +kernel
theorem dX9_countOneMore_1 : decode cX9_countOneMore 1 = .ok (.iconst 5, 1) := by decide +kernel
theorem dX9_countOneMore_2 : decode cX9_countOneMore 2 = .ok (.imul, 1) := by decide +kernel
theorem dX9_countOneMore_3 : decode cX9_countOneMore 3 = .ok (.iload_n 2, 1) := by decide +kernel
theorem dX9_countOneMore_4 : decode cX9_countOneMore 4 = .ok (.iadd, 1) := by decide +kernel
theorem dX9_countOneMore_5 : decode cX9_countOneMore 5 = .ok (.istore_n 3, 1) := by decide +kernel
theorem dX9_countOneMore_6 : decode cX9_countOneMore 6 = .ok (.aload_n 0, 1) := by decide +kernel
theorem dX9_countOneMore_7 : decode cX9_countOneMore 7 = .ok (.getfield 18, 3) := by decide +kernel
theorem dX9_countOneMore_10 : decode cX9_countOneMore 10 = .ok (.iload_n 3, 1) := by decide +kernel
theorem dX9_countOneMore_11 : decode cX9_countOneMore 11 = .ok (.sipush 9999, 3) := by decide +kernel
theorem dX9_countOneMore_14 : decode cX9_countOneMore 14 = .ok (.aload_n 0, 1) := by decide +kernel
theorem dX9_countOneMore_15 : decode cX9_countOneMore 15 = .ok (.getfield 18, 3) := by decide +kernel
theorem dX9_countOneMore_18 : decode cX9_countOneMore 18 = .ok (.iload_n 3, 1) := by decide +kernel
theorem dX9_countOneMore_19 : decode cX9_countOneMore 19 = .ok (.iaload, 1) := by decide +kernel
theorem dX9_countOneMore_20 : decode cX9_countOneMore 20 = .ok (.iconst 1, 1) := by decide +kernel
theorem dX9_countOneMore_21 : decode cX9_countOneMore 21 = .ok (.iadd, 1) := by decide +kernel
theorem dX9_countOneMore_22 : decode cX9_countOneMore 22 = .ok (.invokestatic 76, 3) := by decide +kernel
theorem dX9_countOneMore_25 : decode cX9_countOneMore 25 = .ok (.iastore, 1) := by decide +kernel
theorem dX9_countOneMore_26 : decode cX9_countOneMore 26 = .ok (.return_, 1) := by decide +kernel
def Tr_countOneMore (t : Nat) (a0 : Int32) (a1 : Int32) (S : gm_M) : Option gm_M :=
  gm_lt (α := Int32) ((a0 * 5) + a1) fun x1 =>
  gm_ck (x1) 25 <|
  gm_lt (α := Int32) (if (S.1 (t + 3) x1.toNatClampNeg) + 1 < 9999 then (S.1 (t + 3) x1.toNatClampNeg) + 1 else 9999) fun x3 =>
  gm_ck (x1) 25 <|
  gm_lt (α := gm_M) (gm_ui S (t + 3) (x1.toNatClampNeg) x3) fun S5 =>
  some S5
set_option maxHeartbeats 4000000 in
set_option maxRecDepth 100000 in
theorem Tr_countOneMore_c (l : Launch) (cf : gm_C) (ad : Nat → Nat)  {t : Nat} (ht : gm_isTr t) {a0 : Int32} {a1 : Int32} {S : gm_M}  {S'  : gm_M} (hf : Tr_countOneMore t a0 a1 S = some S') : gm_Met l yX9_countOneMore cX9_countOneMore 4 none 1 15 cf ad gm_sC 106 [.ref (ad t), .int a0, .int a1] S none S' := by
  refine gm_met (by decide +kernel) (Nat.le_of_ble_eq_true rfl) ?_
  intro p e s m args below meth c C hr
  have C : gm_F p s m args meth c cf ad 106 cX9_countOneMore 4 RX9 := C
  refine gm_lve (lv' := [(0, .ref (ad t)), (1, .int a0), (2, .int a1)]) rfl ?_
  unfold Tr_countOneMore at hf
  refine gm_iload_n C dX9_countOneMore_0 rfl 1 rfl ?_
  refine gm_iconst (v := 5) C dX9_countOneMore_1 (by decide) ?_
  refine gm_imul C dX9_countOneMore_2 ?_
  refine gm_iload_n C dX9_countOneMore_3 rfl 2 rfl ?_
  refine gm_iadd C dX9_countOneMore_4 ?_
  obtain ⟨x1, ex1, hf⟩ := gm_lt_s hf
  refine gm_topi ex1 ?_
  refine gm_istore_n (lv' := [(3, .int x1), (0, .ref (ad t)), (1, .int a0), (2, .int a1)]) C dX9_countOneMore_5 rfl (by decide) rfl ?_
  refine gm_aload_n C dX9_countOneMore_6 rfl 1 rfl ?_
  refine gm_getr (j := 3) (u := (t + 3)) C (gm_tr_l0 ht) (gm_tr_k0 ht) kc_9 (k := 2) rfl (by decide) rfl rfl wl_108 dX9_countOneMore_7 ?_
  refine gm_iload_n C dX9_countOneMore_10 rfl 0 rfl ?_
  refine gm_sipush (v := 9999) C dX9_countOneMore_11 (by decide) ?_
  refine gm_aload_n C dX9_countOneMore_14 rfl 1 rfl ?_
  refine gm_getr (j := 3) (u := (t + 3)) C (gm_tr_l0 ht) (gm_tr_k0 ht) kc_9 (k := 2) rfl (by decide) rfl rfl wl_108 dX9_countOneMore_15 ?_
  refine gm_iload_n C dX9_countOneMore_18 rfl 0 rfl ?_
  obtain ⟨h2, hf⟩ := gm_ck_s hf
  refine gm_iald C (gm_tr_l3 ht) (gm_tr_k3 ht) (gm_tr_n3 ht) h2 dX9_countOneMore_19 ?_
  refine gm_iconst (v := 1) C dX9_countOneMore_20 (by decide) ?_
  refine gm_iadd C dX9_countOneMore_21 ?_
  refine gm_mmin C wl_698 wm_min.1 wm_min.2.1 wm_min.2.2 (Nat.le_of_ble_eq_true rfl) (Nat.le_of_ble_eq_true rfl) dX9_countOneMore_22 ?_
  obtain ⟨x3, ex3, hf⟩ := gm_lt_s hf
  refine gm_topi ex3 ?_
  obtain ⟨h4, hf⟩ := gm_ck_s hf
  refine gm_iast C (gm_tr_l3 ht) (gm_tr_k3 ht) (gm_tr_n3 ht) h4 dX9_countOneMore_25 ?_
  obtain ⟨S5, eS5, hf⟩ := gm_lt_s hf
  refine gm_topm eS5 ?_
  exact gm_vret C hr dX9_countOneMore_26 hf
theorem dX9_keepTicket_0 : decode cX9_keepTicket 0 = .ok (.aload_n 0, 1) := by decide +kernel
theorem dX9_keepTicket_1 : decode cX9_keepTicket 1 = .ok (.iload_n 1, 1) := by decide +kernel
theorem dX9_keepTicket_2 : decode cX9_keepTicket 2 = .ok (.iconst 1, 1) := by decide +kernel
theorem dX9_keepTicket_3 : decode cX9_keepTicket 3 = .ok (.invokevirtual 68, 3) := by decide +kernel
theorem dX9_keepTicket_6 : decode cX9_keepTicket 6 = .ok (.iload_n 2, 1) := by decide +kernel
theorem dX9_keepTicket_7 : decode cX9_keepTicket 7 = .ok (.ifCond .eq 9, 3) := by decide +kernel
theorem dX9_keepTicket_10 : decode cX9_keepTicket 10 = .ok (.aload_n 0, 1) := by decide +kernel
theorem dX9_keepTicket_11 : decode cX9_keepTicket 11 = .ok (.iload_n 1, 1) := by decide +kernel
theorem dX9_keepTicket_12 : decode cX9_keepTicket 12 = .ok (.iconst 2, 1) := by decide +kernel
theorem dX9_keepTicket_13 : decode cX9_keepTicket 13 = .ok (.invokevirtual 68, 3) := by decide +kernel
theorem dX9_keepTicket_16 : decode cX9_keepTicket 16 = .ok (.return_, 1) := by decide +kernel
def Tr_keepTicket (t : Nat) (a0 : Int32) (a1 : Int32) (S : gm_M) : Option gm_M :=
  gm_bp1 (Tr_countOneMore t a0 1 S) fun S1 =>
  if a1 = 0 then (
    some S1
  ) else (
    gm_bp1 (Tr_countOneMore t a0 2 S1) fun S3 =>
    some S3
  )
set_option maxHeartbeats 4000000 in
set_option maxRecDepth 100000 in
theorem Tr_keepTicket_c (l : Launch) (cf : gm_C) (ad : Nat → Nat)  {t : Nat} (ht : gm_isTr t) {a0 : Int32} {a1 : Int32} {S : gm_M}  {S'  : gm_M} (hf : Tr_keepTicket t a0 a1 S = some S') : gm_Met l yX9_keepTicket cX9_keepTicket 3 none 2 38 cf ad gm_sC 106 [.ref (ad t), .int a0, .int a1] S none S' := by
  refine gm_met (by decide +kernel) (Nat.le_of_ble_eq_true rfl) ?_
  intro p e s m args below meth c C hr
  have C : gm_F p s m args meth c cf ad 106 cX9_keepTicket 3 RX9 := C
  refine gm_lve (lv' := [(0, .ref (ad t)), (1, .int a0), (2, .int a1)]) rfl ?_
  unfold Tr_keepTicket at hf
  refine gm_aload_n C dX9_keepTicket_0 rfl 0 rfl ?_
  refine gm_iload_n C dX9_keepTicket_1 rfl 1 rfl ?_
  refine gm_iconst (v := 1) C dX9_keepTicket_2 (by decide) ?_
  obtain ⟨S1, eS1, hf⟩ := gm_bp1_s hf
  refine gm_callVv (As := [.int a0, .int 1]) C (Tr_countOneMore_c l cf ad ht eS1) (gm_tr_l0 ht) (gm_tr_k0 ht) kc_9 wy_Tr_countOneMore rfl wl_694 rfl ⟨(Nat.le_of_ble_eq_true rfl), (Nat.le_of_ble_eq_true rfl)⟩ rfl (Nat.le_of_ble_eq_true rfl) dX9_keepTicket_3 ?_
  refine gm_iload_n C dX9_keepTicket_6 rfl 2 rfl ?_
  refine gm_if_eq C 16 dX9_keepTicket_7 (by decide) (fun c2 => ?_) (fun c2 => ?_)
  · have hf := gm_it _ c2 hf
    exact gm_vret C hr dX9_keepTicket_16 hf
  · have hf := gm_if _ c2 hf
    refine gm_aload_n C dX9_keepTicket_10 rfl 0 rfl ?_
    refine gm_iload_n C dX9_keepTicket_11 rfl 1 rfl ?_
    refine gm_iconst (v := 2) C dX9_keepTicket_12 (by decide) ?_
    obtain ⟨S3, eS3, hf⟩ := gm_bp1_s hf
    refine gm_callVv (As := [.int a0, .int 2]) C (Tr_countOneMore_c l cf ad ht eS3) (gm_tr_l0 ht) (gm_tr_k0 ht) kc_9 wy_Tr_countOneMore rfl wl_694 rfl ⟨(Nat.le_of_ble_eq_true rfl), (Nat.le_of_ble_eq_true rfl)⟩ rfl (Nat.le_of_ble_eq_true rfl) dX9_keepTicket_13 ?_
    exact gm_vret C hr dX9_keepTicket_16 hf
theorem dX9_handOver_0 : decode cX9_handOver 0 = .ok (.aload_n 0, 1) := by decide +kernel
theorem dX9_handOver_1 : decode cX9_handOver 1 = .ok (.iload_n 1, 1) := by decide +kernel
theorem dX9_handOver_2 : decode cX9_handOver 2 = .ok (.iconst 0, 1) := by decide +kernel
theorem dX9_handOver_3 : decode cX9_handOver 3 = .ok (.invokevirtual 64, 3) := by decide +kernel
theorem dX9_handOver_6 : decode cX9_handOver 6 = .ok (.istore_n 3, 1) := by decide +kernel
theorem dX9_handOver_7 : decode cX9_handOver 7 = .ok (.iload_n 2, 1) := by decide +kernel
theorem dX9_handOver_8 : decode cX9_handOver 8 = .ok (.ifCond .eq 17, 3) := by decide +kernel
theorem dX9_handOver_11 : decode cX9_handOver 11 = .ok (.iload_n 3, 1) := by decide +kernel
theorem dX9_handOver_12 : decode cX9_handOver 12 = .ok (.iconst 1, 1) := by decide +kernel
theorem dX9_handOver_13 : decode cX9_handOver 13 = .ok (.if_icmp .ne 12, 3) := by decide +kernel
theorem dX9_handOver_16 : decode cX9_handOver 16 = .ok (.aload_n 0, 1) := by decide +kernel
theorem dX9_handOver_17 : decode cX9_handOver 17 = .ok (.iload_n 1, 1) := by decide +kernel
theorem dX9_handOver_18 : decode cX9_handOver 18 = .ok (.iconst 3, 1) := by decide +kernel
theorem dX9_handOver_19 : decode cX9_handOver 19 = .ok (.invokevirtual 68, 3) := by decide +kernel
theorem dX9_handOver_22 : decode cX9_handOver 22 = .ok (.goto 61, 3) := by decide +kernel
theorem dX9_handOver_25 : decode cX9_handOver 25 = .ok (.iload_n 2, 1) := by decide +kernel
theorem dX9_handOver_26 : decode cX9_handOver 26 = .ok (.ifCond .eq 17, 3) := by decide +kernel
theorem dX9_handOver_29 : decode cX9_handOver 29 = .ok (.iload_n 3, 1) := by decide +kernel
theorem dX9_handOver_30 : decode cX9_handOver 30 = .ok (.iconst 2, 1) := by decide +kernel
theorem dX9_handOver_31 : decode cX9_handOver 31 = .ok (.if_icmp .ne 12, 3) := by decide +kernel
theorem dX9_handOver_34 : decode cX9_handOver 34 = .ok (.aload_n 0, 1) := by decide +kernel
theorem dX9_handOver_35 : decode cX9_handOver 35 = .ok (.iload_n 1, 1) := by decide +kernel
theorem dX9_handOver_36 : decode cX9_handOver 36 = .ok (.iconst 4, 1) := by decide +kernel
theorem dX9_handOver_37 : decode cX9_handOver 37 = .ok (.invokevirtual 68, 3) := by decide +kernel
theorem dX9_handOver_40 : decode cX9_handOver 40 = .ok (.goto 43, 3) := by decide +kernel
theorem dX9_handOver_43 : decode cX9_handOver 43 = .ok (.iload_n 2, 1) := by decide +kernel
theorem dX9_handOver_44 : decode cX9_handOver 44 = .ok (.ifCond .ne 33, 3) := by decide +kernel
theorem dX9_handOver_47 : decode cX9_handOver 47 = .ok (.iload_n 3, 1) := by decide +kernel
theorem dX9_handOver_48 : decode cX9_handOver 48 = .ok (.iconst 3, 1) := by decide +kernel
theorem dX9_handOver_49 : decode cX9_handOver 49 = .ok (.if_icmp .ne 28, 3) := by decide +kernel
theorem dX9_handOver_52 : decode cX9_handOver 52 = .ok (.aload_n 0, 1) := by decide +kernel
theorem dX9_handOver_53 : decode cX9_handOver 53 = .ok (.iload_n 1, 1) := by decide +kernel
theorem dX9_handOver_54 : decode cX9_handOver 54 = .ok (.iconst 1, 1) := by decide +kernel
theorem dX9_handOver_55 : decode cX9_handOver 55 = .ok (.iadd, 1) := by decide +kernel
theorem dX9_handOver_56 : decode cX9_handOver 56 = .ok (.aload_n 0, 1) := by decide +kernel
theorem dX9_handOver_57 : decode cX9_handOver 57 = .ok (.getfield 37, 3) := by decide +kernel
theorem dX9_handOver_60 : decode cX9_handOver 60 = .ok (.if_icmp .ge 9, 3) := by decide +kernel
theorem dX9_handOver_63 : decode cX9_handOver 63 = .ok (.iload_n 1, 1) := by decide +kernel
theorem dX9_handOver_64 : decode cX9_handOver 64 = .ok (.iconst 1, 1) := by decide +kernel
theorem dX9_handOver_65 : decode cX9_handOver 65 = .ok (.iadd, 1) := by decide +kernel
theorem dX9_handOver_66 : decode cX9_handOver 66 = .ok (.goto 4, 3) := by decide +kernel
theorem dX9_handOver_69 : decode cX9_handOver 69 = .ok (.iconst 0, 1) := by decide +kernel
theorem dX9_handOver_70 : decode cX9_handOver 70 = .ok (.iconst 0, 1) := by decide +kernel
theorem dX9_handOver_71 : decode cX9_handOver 71 = .ok (.invokevirtual 72, 3) := by decide +kernel
theorem dX9_handOver_74 : decode cX9_handOver 74 = .ok (.goto 9, 3) := by decide +kernel
theorem dX9_handOver_77 : decode cX9_handOver 77 = .ok (.aload_n 0, 1) := by decide +kernel
theorem dX9_handOver_78 : decode cX9_handOver 78 = .ok (.iload_n 1, 1) := by decide +kernel
theorem dX9_handOver_79 : decode cX9_handOver 79 = .ok (.iload_n 2, 1) := by decide +kernel
theorem dX9_handOver_80 : decode cX9_handOver 80 = .ok (.invokevirtual 72, 3) := by decide +kernel
theorem dX9_handOver_83 : decode cX9_handOver 83 = .ok (.return_, 1) := by decide +kernel
def Tr_handOver (t : Nat) (a0 : Int32) (a1 : Int32) (S : gm_M) : Option gm_M :=
  gm_bp1 (Tr_riderCell t a0 0 S) fun v1 =>
  if a1 = 0 then (
    if a1 = 0 then (
      if a1 = 0 then (
        if v1 = 3 then (
          if S.1 t 8 ≤ a0 + 1 then (
            gm_bp1 (Tr_keepTicket t 0 0 S) fun S9 =>
            some S9
          ) else (
            gm_bp1 (Tr_keepTicket t (a0 + 1) 0 S) fun S10 =>
            some S10
          )
        ) else (
          gm_bp1 (Tr_keepTicket t a0 a1 S) fun S7 =>
          some S7
        )
      ) else (
        gm_bp1 (Tr_keepTicket t a0 a1 S) fun S5 =>
        some S5
      )
    ) else (
      if v1 = 2 then (
        gm_bp1 (Tr_countOneMore t a0 4 S) fun S19 =>
        some S19
      ) else (
        if a1 = 0 then (
          if v1 = 3 then (
            if S.1 t 8 ≤ a0 + 1 then (
              gm_bp1 (Tr_keepTicket t 0 0 S) fun S17 =>
              some S17
            ) else (
              gm_bp1 (Tr_keepTicket t (a0 + 1) 0 S) fun S18 =>
              some S18
            )
          ) else (
            gm_bp1 (Tr_keepTicket t a0 a1 S) fun S15 =>
            some S15
          )
        ) else (
          gm_bp1 (Tr_keepTicket t a0 a1 S) fun S13 =>
          some S13
        )
      )
    )
  ) else (
    if v1 = 1 then (
      gm_bp1 (Tr_countOneMore t a0 3 S) fun S38 =>
      some S38
    ) else (
      if a1 = 0 then (
        if a1 = 0 then (
          if v1 = 3 then (
            if S.1 t 8 ≤ a0 + 1 then (
              gm_bp1 (Tr_keepTicket t 0 0 S) fun S27 =>
              some S27
            ) else (
              gm_bp1 (Tr_keepTicket t (a0 + 1) 0 S) fun S28 =>
              some S28
            )
          ) else (
            gm_bp1 (Tr_keepTicket t a0 a1 S) fun S25 =>
            some S25
          )
        ) else (
          gm_bp1 (Tr_keepTicket t a0 a1 S) fun S23 =>
          some S23
        )
      ) else (
        if v1 = 2 then (
          gm_bp1 (Tr_countOneMore t a0 4 S) fun S37 =>
          some S37
        ) else (
          if a1 = 0 then (
            if v1 = 3 then (
              if S.1 t 8 ≤ a0 + 1 then (
                gm_bp1 (Tr_keepTicket t 0 0 S) fun S35 =>
                some S35
              ) else (
                gm_bp1 (Tr_keepTicket t (a0 + 1) 0 S) fun S36 =>
                some S36
              )
            ) else (
              gm_bp1 (Tr_keepTicket t a0 a1 S) fun S33 =>
              some S33
            )
          ) else (
            gm_bp1 (Tr_keepTicket t a0 a1 S) fun S31 =>
            some S31
          )
        )
      )
    )
  )
set_option maxHeartbeats 4000000 in
set_option maxRecDepth 100000 in
theorem Tr_handOver_c (l : Launch) (cf : gm_C) (ad : Nat → Nat)  {t : Nat} (ht : gm_isTr t) {a0 : Int32} {a1 : Int32} {S : gm_M}  {S'  : gm_M} (hf : Tr_handOver t a0 a1 S = some S') : gm_Met l yX9_handOver cX9_handOver 4 none 3 60 cf ad gm_sC 106 [.ref (ad t), .int a0, .int a1] S none S' := by
  refine gm_met (by decide +kernel) (Nat.le_of_ble_eq_true rfl) ?_
  intro p e s m args below meth c C hr
  have C : gm_F p s m args meth c cf ad 106 cX9_handOver 4 RX9 := C
  refine gm_lve (lv' := [(0, .ref (ad t)), (1, .int a0), (2, .int a1)]) rfl ?_
  unfold Tr_handOver at hf
  refine gm_aload_n C dX9_handOver_0 rfl 0 rfl ?_
  refine gm_iload_n C dX9_handOver_1 rfl 1 rfl ?_
  refine gm_iconst (v := 0) C dX9_handOver_2 (by decide) ?_
  obtain ⟨v1, ev1, hf⟩ := gm_bp1_s hf
  refine gm_callVi (As := [.int a0, .int 0]) C (Tr_riderCell_c l cf ad ht ev1) (gm_tr_l0 ht) (gm_tr_k0 ht) kc_9 wy_Tr_riderCell rfl wl_588 rfl ⟨(Nat.le_of_ble_eq_true rfl), (Nat.le_of_ble_eq_true rfl)⟩ rfl (Nat.le_of_ble_eq_true rfl) dX9_handOver_3 ?_
  refine gm_istore_n (lv' := [(3, .int v1), (0, .ref (ad t)), (1, .int a0), (2, .int a1)]) C dX9_handOver_6 rfl (by decide) rfl ?_
  refine gm_iload_n C dX9_handOver_7 rfl 3 rfl ?_
  refine gm_if_eq C 25 dX9_handOver_8 (by decide) (fun c2 => ?_) (fun c2 => ?_)
  · have hf := gm_it _ c2 hf
    refine gm_iload_n C dX9_handOver_25 rfl 3 rfl ?_
    refine gm_if_eq C 43 dX9_handOver_26 (by decide) (fun c3 => ?_) (fun c3 => ?_)
    · have hf := gm_it _ c3 hf
      refine gm_iload_n C dX9_handOver_43 rfl 3 rfl ?_
      refine gm_if_ne C 77 dX9_handOver_44 (by decide) (fun c4 => ?_) (fun c4 => ?_)
      · have hf := gm_if _ c4 hf
        refine gm_aload_n C dX9_handOver_77 rfl 1 rfl ?_
        refine gm_iload_n C dX9_handOver_78 rfl 2 rfl ?_
        refine gm_iload_n C dX9_handOver_79 rfl 3 rfl ?_
        obtain ⟨S5, eS5, hf⟩ := gm_bp1_s hf
        refine gm_callVv (As := [.int a0, .int a1]) C (Tr_keepTicket_c l cf ad ht eS5) (gm_tr_l0 ht) (gm_tr_k0 ht) kc_9 wy_Tr_keepTicket rfl wl_699 rfl ⟨(Nat.le_of_ble_eq_true rfl), (Nat.le_of_ble_eq_true rfl)⟩ rfl (Nat.le_of_ble_eq_true rfl) dX9_handOver_80 ?_
        exact gm_vret C hr dX9_handOver_83 hf
      · have hf := gm_it _ c4 hf
        refine gm_iload_n C dX9_handOver_47 rfl 0 rfl ?_
        refine gm_iconst (v := 3) C dX9_handOver_48 (by decide) ?_
        refine gm_icmp_ne C 77 dX9_handOver_49 (by decide) (fun c6 => ?_) (fun c6 => ?_)
        · have hf := gm_if _ c6 hf
          refine gm_aload_n C dX9_handOver_77 rfl 1 rfl ?_
          refine gm_iload_n C dX9_handOver_78 rfl 2 rfl ?_
          refine gm_iload_n C dX9_handOver_79 rfl 3 rfl ?_
          obtain ⟨S7, eS7, hf⟩ := gm_bp1_s hf
          refine gm_callVv (As := [.int a0, .int a1]) C (Tr_keepTicket_c l cf ad ht eS7) (gm_tr_l0 ht) (gm_tr_k0 ht) kc_9 wy_Tr_keepTicket rfl wl_699 rfl ⟨(Nat.le_of_ble_eq_true rfl), (Nat.le_of_ble_eq_true rfl)⟩ rfl (Nat.le_of_ble_eq_true rfl) dX9_handOver_80 ?_
          exact gm_vret C hr dX9_handOver_83 hf
        · have hf := gm_it _ c6 hf
          refine gm_aload_n C dX9_handOver_52 rfl 1 rfl ?_
          refine gm_iload_n C dX9_handOver_53 rfl 2 rfl ?_
          refine gm_iconst (v := 1) C dX9_handOver_54 (by decide) ?_
          refine gm_iadd C dX9_handOver_55 ?_
          refine gm_aload_n C dX9_handOver_56 rfl 1 rfl ?_
          refine gm_geti C (gm_tr_l0 ht) (gm_tr_k0 ht) kc_9 (k := 8) rfl (by decide) rfl wl_126 dX9_handOver_57 ?_
          refine gm_icmp_ge C 69 dX9_handOver_60 (by decide) (fun c8 => ?_) (fun c8 => ?_)
          · have hf := gm_it _ c8 hf
            refine gm_iconst (v := 0) C dX9_handOver_69 (by decide) ?_
            refine gm_iconst (v := 0) C dX9_handOver_70 (by decide) ?_
            obtain ⟨S9, eS9, hf⟩ := gm_bp1_s hf
            refine gm_callVv (As := [.int 0, .int 0]) C (Tr_keepTicket_c l cf ad ht eS9) (gm_tr_l0 ht) (gm_tr_k0 ht) kc_9 wy_Tr_keepTicket rfl wl_699 rfl ⟨(Nat.le_of_ble_eq_true rfl), (Nat.le_of_ble_eq_true rfl)⟩ rfl (Nat.le_of_ble_eq_true rfl) dX9_handOver_71 ?_
            refine gm_goto C 83 dX9_handOver_74 (by decide) ?_
            exact gm_vret C hr dX9_handOver_83 hf
          · have hf := gm_if _ c8 hf
            refine gm_iload_n C dX9_handOver_63 rfl 2 rfl ?_
            refine gm_iconst (v := 1) C dX9_handOver_64 (by decide) ?_
            refine gm_iadd C dX9_handOver_65 ?_
            refine gm_goto C 70 dX9_handOver_66 (by decide) ?_
            refine gm_iconst (v := 0) C dX9_handOver_70 (by decide) ?_
            obtain ⟨S10, eS10, hf⟩ := gm_bp1_s hf
            refine gm_callVv (As := [.int (a0 + 1), .int 0]) C (Tr_keepTicket_c l cf ad ht eS10) (gm_tr_l0 ht) (gm_tr_k0 ht) kc_9 wy_Tr_keepTicket rfl wl_699 rfl ⟨(Nat.le_of_ble_eq_true rfl), (Nat.le_of_ble_eq_true rfl)⟩ rfl (Nat.le_of_ble_eq_true rfl) dX9_handOver_71 ?_
            refine gm_goto C 83 dX9_handOver_74 (by decide) ?_
            exact gm_vret C hr dX9_handOver_83 hf
    · have hf := gm_if _ c3 hf
      refine gm_iload_n C dX9_handOver_29 rfl 0 rfl ?_
      refine gm_iconst (v := 2) C dX9_handOver_30 (by decide) ?_
      refine gm_icmp_ne C 43 dX9_handOver_31 (by decide) (fun c11 => ?_) (fun c11 => ?_)
      · have hf := gm_if _ c11 hf
        refine gm_iload_n C dX9_handOver_43 rfl 3 rfl ?_
        refine gm_if_ne C 77 dX9_handOver_44 (by decide) (fun c12 => ?_) (fun c12 => ?_)
        · have hf := gm_if _ c12 hf
          refine gm_aload_n C dX9_handOver_77 rfl 1 rfl ?_
          refine gm_iload_n C dX9_handOver_78 rfl 2 rfl ?_
          refine gm_iload_n C dX9_handOver_79 rfl 3 rfl ?_
          obtain ⟨S13, eS13, hf⟩ := gm_bp1_s hf
          refine gm_callVv (As := [.int a0, .int a1]) C (Tr_keepTicket_c l cf ad ht eS13) (gm_tr_l0 ht) (gm_tr_k0 ht) kc_9 wy_Tr_keepTicket rfl wl_699 rfl ⟨(Nat.le_of_ble_eq_true rfl), (Nat.le_of_ble_eq_true rfl)⟩ rfl (Nat.le_of_ble_eq_true rfl) dX9_handOver_80 ?_
          exact gm_vret C hr dX9_handOver_83 hf
        · have hf := gm_it _ c12 hf
          refine gm_iload_n C dX9_handOver_47 rfl 0 rfl ?_
          refine gm_iconst (v := 3) C dX9_handOver_48 (by decide) ?_
          refine gm_icmp_ne C 77 dX9_handOver_49 (by decide) (fun c14 => ?_) (fun c14 => ?_)
          · have hf := gm_if _ c14 hf
            refine gm_aload_n C dX9_handOver_77 rfl 1 rfl ?_
            refine gm_iload_n C dX9_handOver_78 rfl 2 rfl ?_
            refine gm_iload_n C dX9_handOver_79 rfl 3 rfl ?_
            obtain ⟨S15, eS15, hf⟩ := gm_bp1_s hf
            refine gm_callVv (As := [.int a0, .int a1]) C (Tr_keepTicket_c l cf ad ht eS15) (gm_tr_l0 ht) (gm_tr_k0 ht) kc_9 wy_Tr_keepTicket rfl wl_699 rfl ⟨(Nat.le_of_ble_eq_true rfl), (Nat.le_of_ble_eq_true rfl)⟩ rfl (Nat.le_of_ble_eq_true rfl) dX9_handOver_80 ?_
            exact gm_vret C hr dX9_handOver_83 hf
          · have hf := gm_it _ c14 hf
            refine gm_aload_n C dX9_handOver_52 rfl 1 rfl ?_
            refine gm_iload_n C dX9_handOver_53 rfl 2 rfl ?_
            refine gm_iconst (v := 1) C dX9_handOver_54 (by decide) ?_
            refine gm_iadd C dX9_handOver_55 ?_
            refine gm_aload_n C dX9_handOver_56 rfl 1 rfl ?_
            refine gm_geti C (gm_tr_l0 ht) (gm_tr_k0 ht) kc_9 (k := 8) rfl (by decide) rfl wl_126 dX9_handOver_57 ?_
            refine gm_icmp_ge C 69 dX9_handOver_60 (by decide) (fun c16 => ?_) (fun c16 => ?_)
            · have hf := gm_it _ c16 hf
              refine gm_iconst (v := 0) C dX9_handOver_69 (by decide) ?_
              refine gm_iconst (v := 0) C dX9_handOver_70 (by decide) ?_
              obtain ⟨S17, eS17, hf⟩ := gm_bp1_s hf
              refine gm_callVv (As := [.int 0, .int 0]) C (Tr_keepTicket_c l cf ad ht eS17) (gm_tr_l0 ht) (gm_tr_k0 ht) kc_9 wy_Tr_keepTicket rfl wl_699 rfl ⟨(Nat.le_of_ble_eq_true rfl), (Nat.le_of_ble_eq_true rfl)⟩ rfl (Nat.le_of_ble_eq_true rfl) dX9_handOver_71 ?_
              refine gm_goto C 83 dX9_handOver_74 (by decide) ?_
              exact gm_vret C hr dX9_handOver_83 hf
            · have hf := gm_if _ c16 hf
              refine gm_iload_n C dX9_handOver_63 rfl 2 rfl ?_
              refine gm_iconst (v := 1) C dX9_handOver_64 (by decide) ?_
              refine gm_iadd C dX9_handOver_65 ?_
              refine gm_goto C 70 dX9_handOver_66 (by decide) ?_
              refine gm_iconst (v := 0) C dX9_handOver_70 (by decide) ?_
              obtain ⟨S18, eS18, hf⟩ := gm_bp1_s hf
              refine gm_callVv (As := [.int (a0 + 1), .int 0]) C (Tr_keepTicket_c l cf ad ht eS18) (gm_tr_l0 ht) (gm_tr_k0 ht) kc_9 wy_Tr_keepTicket rfl wl_699 rfl ⟨(Nat.le_of_ble_eq_true rfl), (Nat.le_of_ble_eq_true rfl)⟩ rfl (Nat.le_of_ble_eq_true rfl) dX9_handOver_71 ?_
              refine gm_goto C 83 dX9_handOver_74 (by decide) ?_
              exact gm_vret C hr dX9_handOver_83 hf
      · have hf := gm_it _ c11 hf
        refine gm_aload_n C dX9_handOver_34 rfl 1 rfl ?_
        refine gm_iload_n C dX9_handOver_35 rfl 2 rfl ?_
        refine gm_iconst (v := 4) C dX9_handOver_36 (by decide) ?_
        obtain ⟨S19, eS19, hf⟩ := gm_bp1_s hf
        refine gm_callVv (As := [.int a0, .int 4]) C (Tr_countOneMore_c l cf ad ht eS19) (gm_tr_l0 ht) (gm_tr_k0 ht) kc_9 wy_Tr_countOneMore rfl wl_694 rfl ⟨(Nat.le_of_ble_eq_true rfl), (Nat.le_of_ble_eq_true rfl)⟩ rfl (Nat.le_of_ble_eq_true rfl) dX9_handOver_37 ?_
        refine gm_goto C 83 dX9_handOver_40 (by decide) ?_
        exact gm_vret C hr dX9_handOver_83 hf
  · have hf := gm_if _ c2 hf
    refine gm_iload_n C dX9_handOver_11 rfl 0 rfl ?_
    refine gm_iconst (v := 1) C dX9_handOver_12 (by decide) ?_
    refine gm_icmp_ne C 25 dX9_handOver_13 (by decide) (fun c20 => ?_) (fun c20 => ?_)
    · have hf := gm_if _ c20 hf
      refine gm_iload_n C dX9_handOver_25 rfl 3 rfl ?_
      refine gm_if_eq C 43 dX9_handOver_26 (by decide) (fun c21 => ?_) (fun c21 => ?_)
      · have hf := gm_it _ c21 hf
        refine gm_iload_n C dX9_handOver_43 rfl 3 rfl ?_
        refine gm_if_ne C 77 dX9_handOver_44 (by decide) (fun c22 => ?_) (fun c22 => ?_)
        · have hf := gm_if _ c22 hf
          refine gm_aload_n C dX9_handOver_77 rfl 1 rfl ?_
          refine gm_iload_n C dX9_handOver_78 rfl 2 rfl ?_
          refine gm_iload_n C dX9_handOver_79 rfl 3 rfl ?_
          obtain ⟨S23, eS23, hf⟩ := gm_bp1_s hf
          refine gm_callVv (As := [.int a0, .int a1]) C (Tr_keepTicket_c l cf ad ht eS23) (gm_tr_l0 ht) (gm_tr_k0 ht) kc_9 wy_Tr_keepTicket rfl wl_699 rfl ⟨(Nat.le_of_ble_eq_true rfl), (Nat.le_of_ble_eq_true rfl)⟩ rfl (Nat.le_of_ble_eq_true rfl) dX9_handOver_80 ?_
          exact gm_vret C hr dX9_handOver_83 hf
        · have hf := gm_it _ c22 hf
          refine gm_iload_n C dX9_handOver_47 rfl 0 rfl ?_
          refine gm_iconst (v := 3) C dX9_handOver_48 (by decide) ?_
          refine gm_icmp_ne C 77 dX9_handOver_49 (by decide) (fun c24 => ?_) (fun c24 => ?_)
          · have hf := gm_if _ c24 hf
            refine gm_aload_n C dX9_handOver_77 rfl 1 rfl ?_
            refine gm_iload_n C dX9_handOver_78 rfl 2 rfl ?_
            refine gm_iload_n C dX9_handOver_79 rfl 3 rfl ?_
            obtain ⟨S25, eS25, hf⟩ := gm_bp1_s hf
            refine gm_callVv (As := [.int a0, .int a1]) C (Tr_keepTicket_c l cf ad ht eS25) (gm_tr_l0 ht) (gm_tr_k0 ht) kc_9 wy_Tr_keepTicket rfl wl_699 rfl ⟨(Nat.le_of_ble_eq_true rfl), (Nat.le_of_ble_eq_true rfl)⟩ rfl (Nat.le_of_ble_eq_true rfl) dX9_handOver_80 ?_
            exact gm_vret C hr dX9_handOver_83 hf
          · have hf := gm_it _ c24 hf
            refine gm_aload_n C dX9_handOver_52 rfl 1 rfl ?_
            refine gm_iload_n C dX9_handOver_53 rfl 2 rfl ?_
            refine gm_iconst (v := 1) C dX9_handOver_54 (by decide) ?_
            refine gm_iadd C dX9_handOver_55 ?_
            refine gm_aload_n C dX9_handOver_56 rfl 1 rfl ?_
            refine gm_geti C (gm_tr_l0 ht) (gm_tr_k0 ht) kc_9 (k := 8) rfl (by decide) rfl wl_126 dX9_handOver_57 ?_
            refine gm_icmp_ge C 69 dX9_handOver_60 (by decide) (fun c26 => ?_) (fun c26 => ?_)
            · have hf := gm_it _ c26 hf
              refine gm_iconst (v := 0) C dX9_handOver_69 (by decide) ?_
              refine gm_iconst (v := 0) C dX9_handOver_70 (by decide) ?_
              obtain ⟨S27, eS27, hf⟩ := gm_bp1_s hf
              refine gm_callVv (As := [.int 0, .int 0]) C (Tr_keepTicket_c l cf ad ht eS27) (gm_tr_l0 ht) (gm_tr_k0 ht) kc_9 wy_Tr_keepTicket rfl wl_699 rfl ⟨(Nat.le_of_ble_eq_true rfl), (Nat.le_of_ble_eq_true rfl)⟩ rfl (Nat.le_of_ble_eq_true rfl) dX9_handOver_71 ?_
              refine gm_goto C 83 dX9_handOver_74 (by decide) ?_
              exact gm_vret C hr dX9_handOver_83 hf
            · have hf := gm_if _ c26 hf
              refine gm_iload_n C dX9_handOver_63 rfl 2 rfl ?_
              refine gm_iconst (v := 1) C dX9_handOver_64 (by decide) ?_
              refine gm_iadd C dX9_handOver_65 ?_
              refine gm_goto C 70 dX9_handOver_66 (by decide) ?_
              refine gm_iconst (v := 0) C dX9_handOver_70 (by decide) ?_
              obtain ⟨S28, eS28, hf⟩ := gm_bp1_s hf
              refine gm_callVv (As := [.int (a0 + 1), .int 0]) C (Tr_keepTicket_c l cf ad ht eS28) (gm_tr_l0 ht) (gm_tr_k0 ht) kc_9 wy_Tr_keepTicket rfl wl_699 rfl ⟨(Nat.le_of_ble_eq_true rfl), (Nat.le_of_ble_eq_true rfl)⟩ rfl (Nat.le_of_ble_eq_true rfl) dX9_handOver_71 ?_
              refine gm_goto C 83 dX9_handOver_74 (by decide) ?_
              exact gm_vret C hr dX9_handOver_83 hf
      · have hf := gm_if _ c21 hf
        refine gm_iload_n C dX9_handOver_29 rfl 0 rfl ?_
        refine gm_iconst (v := 2) C dX9_handOver_30 (by decide) ?_
        refine gm_icmp_ne C 43 dX9_handOver_31 (by decide) (fun c29 => ?_) (fun c29 => ?_)
        · have hf := gm_if _ c29 hf
          refine gm_iload_n C dX9_handOver_43 rfl 3 rfl ?_
          refine gm_if_ne C 77 dX9_handOver_44 (by decide) (fun c30 => ?_) (fun c30 => ?_)
          · have hf := gm_if _ c30 hf
            refine gm_aload_n C dX9_handOver_77 rfl 1 rfl ?_
            refine gm_iload_n C dX9_handOver_78 rfl 2 rfl ?_
            refine gm_iload_n C dX9_handOver_79 rfl 3 rfl ?_
            obtain ⟨S31, eS31, hf⟩ := gm_bp1_s hf
            refine gm_callVv (As := [.int a0, .int a1]) C (Tr_keepTicket_c l cf ad ht eS31) (gm_tr_l0 ht) (gm_tr_k0 ht) kc_9 wy_Tr_keepTicket rfl wl_699 rfl ⟨(Nat.le_of_ble_eq_true rfl), (Nat.le_of_ble_eq_true rfl)⟩ rfl (Nat.le_of_ble_eq_true rfl) dX9_handOver_80 ?_
            exact gm_vret C hr dX9_handOver_83 hf
          · have hf := gm_it _ c30 hf
            refine gm_iload_n C dX9_handOver_47 rfl 0 rfl ?_
            refine gm_iconst (v := 3) C dX9_handOver_48 (by decide) ?_
            refine gm_icmp_ne C 77 dX9_handOver_49 (by decide) (fun c32 => ?_) (fun c32 => ?_)
            · have hf := gm_if _ c32 hf
              refine gm_aload_n C dX9_handOver_77 rfl 1 rfl ?_
              refine gm_iload_n C dX9_handOver_78 rfl 2 rfl ?_
              refine gm_iload_n C dX9_handOver_79 rfl 3 rfl ?_
              obtain ⟨S33, eS33, hf⟩ := gm_bp1_s hf
              refine gm_callVv (As := [.int a0, .int a1]) C (Tr_keepTicket_c l cf ad ht eS33) (gm_tr_l0 ht) (gm_tr_k0 ht) kc_9 wy_Tr_keepTicket rfl wl_699 rfl ⟨(Nat.le_of_ble_eq_true rfl), (Nat.le_of_ble_eq_true rfl)⟩ rfl (Nat.le_of_ble_eq_true rfl) dX9_handOver_80 ?_
              exact gm_vret C hr dX9_handOver_83 hf
            · have hf := gm_it _ c32 hf
              refine gm_aload_n C dX9_handOver_52 rfl 1 rfl ?_
              refine gm_iload_n C dX9_handOver_53 rfl 2 rfl ?_
              refine gm_iconst (v := 1) C dX9_handOver_54 (by decide) ?_
              refine gm_iadd C dX9_handOver_55 ?_
              refine gm_aload_n C dX9_handOver_56 rfl 1 rfl ?_
              refine gm_geti C (gm_tr_l0 ht) (gm_tr_k0 ht) kc_9 (k := 8) rfl (by decide) rfl wl_126 dX9_handOver_57 ?_
              refine gm_icmp_ge C 69 dX9_handOver_60 (by decide) (fun c34 => ?_) (fun c34 => ?_)
              · have hf := gm_it _ c34 hf
                refine gm_iconst (v := 0) C dX9_handOver_69 (by decide) ?_
                refine gm_iconst (v := 0) C dX9_handOver_70 (by decide) ?_
                obtain ⟨S35, eS35, hf⟩ := gm_bp1_s hf
                refine gm_callVv (As := [.int 0, .int 0]) C (Tr_keepTicket_c l cf ad ht eS35) (gm_tr_l0 ht) (gm_tr_k0 ht) kc_9 wy_Tr_keepTicket rfl wl_699 rfl ⟨(Nat.le_of_ble_eq_true rfl), (Nat.le_of_ble_eq_true rfl)⟩ rfl (Nat.le_of_ble_eq_true rfl) dX9_handOver_71 ?_
                refine gm_goto C 83 dX9_handOver_74 (by decide) ?_
                exact gm_vret C hr dX9_handOver_83 hf
              · have hf := gm_if _ c34 hf
                refine gm_iload_n C dX9_handOver_63 rfl 2 rfl ?_
                refine gm_iconst (v := 1) C dX9_handOver_64 (by decide) ?_
                refine gm_iadd C dX9_handOver_65 ?_
                refine gm_goto C 70 dX9_handOver_66 (by decide) ?_
                refine gm_iconst (v := 0) C dX9_handOver_70 (by decide) ?_
                obtain ⟨S36, eS36, hf⟩ := gm_bp1_s hf
                refine gm_callVv (As := [.int (a0 + 1), .int 0]) C (Tr_keepTicket_c l cf ad ht eS36) (gm_tr_l0 ht) (gm_tr_k0 ht) kc_9 wy_Tr_keepTicket rfl wl_699 rfl ⟨(Nat.le_of_ble_eq_true rfl), (Nat.le_of_ble_eq_true rfl)⟩ rfl (Nat.le_of_ble_eq_true rfl) dX9_handOver_71 ?_
                refine gm_goto C 83 dX9_handOver_74 (by decide) ?_
                exact gm_vret C hr dX9_handOver_83 hf
        · have hf := gm_it _ c29 hf
          refine gm_aload_n C dX9_handOver_34 rfl 1 rfl ?_
          refine gm_iload_n C dX9_handOver_35 rfl 2 rfl ?_
          refine gm_iconst (v := 4) C dX9_handOver_36 (by decide) ?_
          obtain ⟨S37, eS37, hf⟩ := gm_bp1_s hf
          refine gm_callVv (As := [.int a0, .int 4]) C (Tr_countOneMore_c l cf ad ht eS37) (gm_tr_l0 ht) (gm_tr_k0 ht) kc_9 wy_Tr_countOneMore rfl wl_694 rfl ⟨(Nat.le_of_ble_eq_true rfl), (Nat.le_of_ble_eq_true rfl)⟩ rfl (Nat.le_of_ble_eq_true rfl) dX9_handOver_37 ?_
          refine gm_goto C 83 dX9_handOver_40 (by decide) ?_
          exact gm_vret C hr dX9_handOver_83 hf
    · have hf := gm_it _ c20 hf
      refine gm_aload_n C dX9_handOver_16 rfl 1 rfl ?_
      refine gm_iload_n C dX9_handOver_17 rfl 2 rfl ?_
      refine gm_iconst (v := 3) C dX9_handOver_18 (by decide) ?_
      obtain ⟨S38, eS38, hf⟩ := gm_bp1_s hf
      refine gm_callVv (As := [.int a0, .int 3]) C (Tr_countOneMore_c l cf ad ht eS38) (gm_tr_l0 ht) (gm_tr_k0 ht) kc_9 wy_Tr_countOneMore rfl wl_694 rfl ⟨(Nat.le_of_ble_eq_true rfl), (Nat.le_of_ble_eq_true rfl)⟩ rfl (Nat.le_of_ble_eq_true rfl) dX9_handOver_19 ?_
      refine gm_goto C 83 dX9_handOver_22 (by decide) ?_
      exact gm_vret C hr dX9_handOver_83 hf
theorem dX10_sellOne_0 : decode cX10_sellOne 0 = .ok (.aload_n 0, 1) := by decide +kernel
theorem dX10_sellOne_1 : decode cX10_sellOne 1 = .ok (.getfield 26, 3) := by decide +kernel
theorem dX10_sellOne_4 : decode cX10_sellOne 4 = .ok (.aload_n 0, 1) := by decide +kernel
theorem dX10_sellOne_5 : decode cX10_sellOne 5 = .ok (.getfield 19, 3) := by decide +kernel
theorem dX10_sellOne_8 : decode cX10_sellOne 8 = .ok (.iload_n 1, 1) := by decide +kernel
theorem dX10_sellOne_9 : decode cX10_sellOne 9 = .ok (.invokevirtual 167, 3) := by decide +kernel
theorem dX10_sellOne_12 : decode cX10_sellOne 12 = .ok (.invokevirtual 198, 3) := by decide +kernel
theorem dX10_sellOne_15 : decode cX10_sellOne 15 = .ok (.istore_n 3, 1) := by decide +kernel
theorem dX10_sellOne_16 : decode cX10_sellOne 16 = .ok (.aload_n 0, 1) := by decide +kernel
theorem dX10_sellOne_17 : decode cX10_sellOne 17 = .ok (.getfield 19, 3) := by decide +kernel
theorem dX10_sellOne_20 : decode cX10_sellOne 20 = .ok (.iload_n 1, 1) := by decide +kernel
theorem dX10_sellOne_21 : decode cX10_sellOne 21 = .ok (.invokevirtual 274, 3) := by decide +kernel
theorem dX10_sellOne_24 : decode cX10_sellOne 24 = .ok (.aload_n 0, 1) := by decide +kernel
theorem dX10_sellOne_25 : decode cX10_sellOne 25 = .ok (.getfield 19, 3) := by decide +kernel
theorem dX10_sellOne_28 : decode cX10_sellOne 28 = .ok (.iload_n 2, 1) := by decide +kernel
theorem dX10_sellOne_29 : decode cX10_sellOne 29 = .ok (.iload_n 3, 1) := by decide +kernel
theorem dX10_sellOne_30 : decode cX10_sellOne 30 = .ok (.invokevirtual 277, 3) := by decide +kernel
theorem dX10_sellOne_33 : decode cX10_sellOne 33 = .ok (.iload_n 3, 1) := by decide +kernel
theorem dX10_sellOne_34 : decode cX10_sellOne 34 = .ok (.ireturn, 1) := by decide +kernel
def Lt_sellOne (fl : Nat) (a0 : Int32) (a1 : Int32) (S : gm_M) : Option (Int32 × gm_M) :=
  gm_bp1 (Tr_nextTicket 8 a0 S) fun v1 =>
  gm_bp1 (Tb_isLucky v1 S) fun v2 =>
  gm_bp1 (Tr_takeTicket fl 8 a0 S) fun S3 =>
  gm_bp1 (Tr_handOver 8 a1 v2 S3) fun S4 =>
  if vp_nar .boolean v2 = v2 then (some (v2, S4)) else none
set_option maxHeartbeats 4000000 in
set_option maxRecDepth 100000 in
theorem Lt_sellOne_c (l : Launch) (cf : gm_C) (ad : Nat → Nat) {fl : Nat}   {a0 : Int32} {a1 : Int32} {S : gm_M} {r : Int32} {S'  : gm_M} (hf : Lt_sellOne fl a0 a1 S = some (r, S')) : gm_Met l yX10_sellOne cX10_sellOne 4 (some .boolean) 4 83 cf ad gm_sC 106 [.ref (ad 0), .int a0, .int a1] S (some (.int r)) S' := by
  refine gm_met (by decide +kernel) (Nat.le_of_ble_eq_true rfl) ?_
  intro p e s m args below meth c C hr
  have C : gm_F p s m args meth c cf ad 106 cX10_sellOne 4 RX10 := C
  refine gm_lve (lv' := [(0, .ref (ad 0)), (1, .int a0), (2, .int a1)]) rfl ?_
  unfold Lt_sellOne at hf
  refine gm_aload_n C dX10_sellOne_0 rfl 0 rfl ?_
  refine gm_getr (j := 12) (u := 12) C (Nat.le_of_ble_eq_true rfl) rfl kc_10 (k := 2) rfl (by decide) rfl rfl wl_330 dX10_sellOne_1 ?_
  refine gm_aload_n C dX10_sellOne_4 rfl 0 rfl ?_
  refine gm_getr (j := 8) (u := 8) C (Nat.le_of_ble_eq_true rfl) rfl kc_10 (k := 1) rfl (by decide) rfl rfl wl_329 dX10_sellOne_5 ?_
  refine gm_iload_n C dX10_sellOne_8 rfl 1 rfl ?_
  obtain ⟨v1, ev1, hf⟩ := gm_bp1_s hf
  refine gm_callVi (As := [.int a0]) C (Tr_nextTicket_c l cf ad gm_tr_8 ev1) (Nat.le_of_ble_eq_true rfl) rfl kc_9 wy_Tr_nextTicket rfl wl_571 rfl ⟨(Nat.le_of_ble_eq_true rfl), (Nat.le_of_ble_eq_true rfl)⟩ rfl (Nat.le_of_ble_eq_true rfl) dX10_sellOne_9 ?_
  obtain ⟨v2, ev2, hf⟩ := gm_bp1_s hf
  refine gm_callVi (As := [.int v1]) C (Tb_isLucky_c l cf ad ev2) (Nat.le_of_ble_eq_true rfl) rfl kc_3 wy_Tb_isLucky rfl wl_575 rfl ⟨(Nat.le_of_ble_eq_true rfl), (Nat.le_of_ble_eq_true rfl)⟩ rfl (Nat.le_of_ble_eq_true rfl) dX10_sellOne_12 ?_
  refine gm_istore_n (lv' := [(3, .int v2), (0, .ref (ad 0)), (1, .int a0), (2, .int a1)]) C dX10_sellOne_15 rfl (by decide) rfl ?_
  refine gm_aload_n C dX10_sellOne_16 rfl 1 rfl ?_
  refine gm_getr (j := 8) (u := 8) C (Nat.le_of_ble_eq_true rfl) rfl kc_10 (k := 1) rfl (by decide) rfl rfl wl_329 dX10_sellOne_17 ?_
  refine gm_iload_n C dX10_sellOne_20 rfl 2 rfl ?_
  obtain ⟨S3, eS3, hf⟩ := gm_bp1_s hf
  refine gm_callVv (As := [.int a0]) C (Tr_takeTicket_c l cf ad gm_tr_8 eS3) (Nat.le_of_ble_eq_true rfl) rfl kc_9 wy_Tr_takeTicket rfl wl_683 rfl ⟨(Nat.le_of_ble_eq_true rfl), (Nat.le_of_ble_eq_true rfl)⟩ rfl (Nat.le_of_ble_eq_true rfl) dX10_sellOne_21 ?_
  refine gm_aload_n C dX10_sellOne_24 rfl 1 rfl ?_
  refine gm_getr (j := 8) (u := 8) C (Nat.le_of_ble_eq_true rfl) rfl kc_10 (k := 1) rfl (by decide) rfl rfl wl_329 dX10_sellOne_25 ?_
  refine gm_iload_n C dX10_sellOne_28 rfl 3 rfl ?_
  refine gm_iload_n C dX10_sellOne_29 rfl 0 rfl ?_
  obtain ⟨S4, eS4, hf⟩ := gm_bp1_s hf
  refine gm_callVv (As := [.int a1, .int v2]) C (Tr_handOver_c l cf ad gm_tr_8 eS4) (Nat.le_of_ble_eq_true rfl) rfl kc_9 wy_Tr_handOver rfl wl_690 rfl ⟨(Nat.le_of_ble_eq_true rfl), (Nat.le_of_ble_eq_true rfl)⟩ rfl (Nat.le_of_ble_eq_true rfl) dX10_sellOne_30 ?_
  refine gm_iload_n C dX10_sellOne_33 rfl 0 rfl ?_
  obtain ⟨h5, hf⟩ := gm_in _ hf
  exact gm_iret C hr (gm_zb h5) dX10_sellOne_34 hf
