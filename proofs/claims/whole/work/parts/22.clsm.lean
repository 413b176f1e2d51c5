theorem dX3_countBetween_0 : decode cX3_countBetween 0 = .ok (.iconst 0, 1) := by decide +kernel
theorem dX3_countBetween_1 : decode cX3_countBetween 1 = .ok (.istore_n 3, 1) := by decide +kernel
theorem dX3_countBetween_2 : decode cX3_countBetween 2 = .ok (.iload_n 1, 1) := by decide +kernel
theorem dX3_countBetween_3 : decode cX3_countBetween 3 = .ok (.istore 4, 2) := by decide +kernel
theorem dX3_countBetween_5 : decode cX3_countBetween 5 = .ok (.iload 4, 2) := by decide +kernel
theorem dX3_countBetween_7 : decode cX3_countBetween 7 = .ok (.iload_n 2, 1) := by decide +kernel
theorem dX3_countBetween_8 : decode cX3_countBetween 8 = .ok (.if_icmp .gt 30, 3) := by decide +kernel
theorem dX3_countBetween_11 : decode cX3_countBetween 11 = .ok (.iload 4, 2) := by decide +kernel
theorem dX3_countBetween_13 : decode cX3_countBetween 13 = .ok (.aload_n 0, 1) := by decide +kernel
theorem dX3_countBetween_14 : decode cX3_countBetween 14 = .ok (.getfield 42, 3) := by decide +kernel
theorem dX3_countBetween_17 : decode cX3_countBetween 17 = .ok (.if_icmp .ge 21, 3) := by decide +kernel
theorem dX3_countBetween_20 : decode cX3_countBetween 20 = .ok (.aload_n 0, 1) := by decide +kernel
theorem dX3_countBetween_21 : decode cX3_countBetween 21 = .ok (.iload 4, 2) := by decide +kernel
theorem dX3_countBetween_23 : decode cX3_countBetween 23 = .ok (.invokevirtual 93, 3) := by decide +kernel
theorem dX3_countBetween_26 : decode cX3_countBetween 26 = .ok (.ifCond .eq 6, 3) := by decide +kernel
theorem dX3_countBetween_29 : decode cX3_countBetween 29 = .ok (.iinc 3 1, 3) := by decide +kernel
theorem dX3_countBetween_32 : decode cX3_countBetween 32 = .ok (.iinc 4 1, 3) := by decide +kernel
theorem dX3_countBetween_35 : decode cX3_countBetween 35 = .ok (.goto (-30), 3) := by decide +kernel
theorem dX3_countBetween_38 : decode cX3_countBetween 38 = .ok (.iload_n 3, 1) := by decide +kernel
theorem dX3_countBetween_39 : decode cX3_countBetween 39 = .ok (.ireturn, 1) := by decide +kernel
def Tb_countBetween_L5_b (a1 : Int32) (S : gm_M) (rec : Int32 → Int32 → Option (Int32)) (y1 : Int32) (y2 : Int32) : Option (Int32) :=
  if a1 < y2 then (
    some (y1)
  ) else (
    if S.1 12 5 ≤ y2 then (
      some (y1)
    ) else (
      gm_bp1 (Tb_isLucky y2 S) fun v6 =>
      gm_bp1 (show Option (Int32) from
        if v6 = 0 then (
          some (y1)
        ) else (
          gm_lt (α := Int32) (y1 + 1) fun x10 =>
          some (x10)
        )
      ) fun x7 =>
      gm_lt (α := Int32) (y2 + 1) fun x8 =>
      rec x7 x8
    )
  )
def Tb_countBetween_L5 (a1 : Int32) (S : gm_M) : Nat → Int32 → Int32 → Option (Int32)
  | 0 => fun _ _ => none
  | n + 1 => Tb_countBetween_L5_b a1 S (Tb_countBetween_L5 a1 S n)
def Tb_countBetween (fl : Nat) (a0 : Int32) (a1 : Int32) (S : gm_M) : Option Int32 :=
  gm_bp1 (Tb_countBetween_L5 a1 S fl 0 a0) fun z3 =>
  some (z3)
set_option maxHeartbeats 4000000 in
set_option maxRecDepth 100000 in
theorem Tb_countBetween_c (l : Launch) (cf : gm_C) (ad : Nat → Nat) {fl : Nat}   {a0 : Int32} {a1 : Int32} {S : gm_M} {r : Int32}  (hf : Tb_countBetween fl a0 a1 S = some r) : gm_Met l yX3_countBetween cX3_countBetween 5 (some .int) 1 21 cf ad gm_sC 106 [.ref (ad 12), .int a0, .int a1] S (some (.int r)) S := by
  refine gm_met (by decide +kernel) (Nat.le_of_ble_eq_true rfl) ?_
  intro p e s m args below meth c C hr
  have C : gm_F p s m args meth c cf ad 106 cX3_countBetween 5 RX3 := C
  refine gm_lve (lv' := [(0, .ref (ad 12)), (1, .int a0), (2, .int a1)]) rfl ?_
  unfold Tb_countBetween at hf
  refine gm_iconst (v := 0) C dX3_countBetween_0 (by decide) ?_
  refine gm_istore_n (lv' := [(3, .int 0), (0, .ref (ad 12)), (1, .int a0), (2, .int a1)]) C dX3_countBetween_1 rfl (by decide) rfl ?_
  refine gm_iload_n C dX3_countBetween_2 rfl 2 rfl ?_
  refine gm_istore (lv' := [(4, .int a0), (3, .int 0), (0, .ref (ad 12)), (1, .int a0), (2, .int a1)]) C dX3_countBetween_3 (by decide) rfl ?_
  have L5 : ∀ (n : Nat) (y1 : Int32) (y2 : Int32) (z3 : Int32), Tb_countBetween_L5 a1 S n y1 y2 = some (z3) → gm_G p l e { frames := 1, cells := 0, slots := 0, locals := 21 } s m args below meth c (MQ below (gm_Q cf ad gm_sC 106 (some (.int r)) S) args s 0 0 (gm_A ad 106)) cf ad gm_sC 106 5 S 38 [(3, .int z3)] [] → gm_G p l e { frames := 1, cells := 0, slots := 0, locals := 21 } s m args below meth c (MQ below (gm_Q cf ad gm_sC 106 (some (.int r)) S) args s 0 0 (gm_A ad 106)) cf ad gm_sC 106 5 S 5 [(0, .ref (ad 12)), (2, .int a1), (3, .int y1), (4, .int y2)] [] := by
    intro n
    induction n with
    | zero => intro y1 y2 z3 hf K; cases (show (none : Option _) = some _ from hf)
    | succ n ih =>
      intro y1 y2 z3 hf K
      have hf : Tb_countBetween_L5_b a1 S (Tb_countBetween_L5 a1 S n) y1 y2 = some (z3) := hf
      unfold Tb_countBetween_L5_b at hf
      refine gm_iload C dX3_countBetween_5 3 rfl ?_
      refine gm_iload_n C dX3_countBetween_7 rfl 1 rfl ?_
      refine gm_icmp_gt C 38 dX3_countBetween_8 (by decide) (fun c4 => ?_) (fun c4 => ?_)
      · have hf := gm_it _ c4 hf
        cases hf
        exact gm_lvp [2] rfl K
      · have hf := gm_if _ c4 hf
        refine gm_iload C dX3_countBetween_11 3 rfl ?_
        refine gm_aload_n C dX3_countBetween_13 rfl 0 rfl ?_
        refine gm_geti C (Nat.le_of_ble_eq_true rfl) rfl kc_3 (k := 5) rfl (by decide) rfl wl_208 dX3_countBetween_14 ?_
        refine gm_icmp_ge C 38 dX3_countBetween_17 (by decide) (fun c5 => ?_) (fun c5 => ?_)
        · have hf := gm_it _ c5 hf
          cases hf
          exact gm_lvp [2] rfl K
        · have hf := gm_if _ c5 hf
          refine gm_aload_n C dX3_countBetween_20 rfl 0 rfl ?_
          refine gm_iload C dX3_countBetween_21 3 rfl ?_
          obtain ⟨v6, ev6, hf⟩ := gm_bp1_s hf
          refine gm_callVi (As := [.int y2]) C (Tb_isLucky_c l cf ad ev6) (Nat.le_of_ble_eq_true rfl) rfl kc_3 wy_Tb_isLucky rfl wl_763 rfl ⟨(Nat.le_of_ble_eq_true rfl), (Nat.le_of_ble_eq_true rfl)⟩ rfl (Nat.le_of_ble_eq_true rfl) dX3_countBetween_23 ?_
          obtain ⟨x7, hx, hf⟩ := gm_bp1_s hf
          have key : gm_G p l e { frames := 1, cells := 0, slots := 0, locals := 21 } s m args below meth c (MQ below (gm_Q cf ad gm_sC 106 (some (.int r)) S) args s 0 0 (gm_A ad 106)) cf ad gm_sC 106 5 S 32 [(0, .ref (ad 12)), (2, .int a1), (3, .int x7), (4, .int y2)] [] := by
            obtain ⟨x8, ex8, hf⟩ := gm_lt_s hf
            refine gm_iinc (v := x8) (lv' := [(4, .int x8), (0, .ref (ad 12)), (2, .int a1), (3, .int x7)]) (j := 3) C dX3_countBetween_32 rfl (by rw [ex8]; rfl) (by decide) rfl ?_
            refine gm_goto C 5 dX3_countBetween_35 (by decide) ?_
            exact gm_lvp [1, 2, 3, 0] rfl (ih _ _ _ hf K)
          have hf := hx
          refine gm_if_eq C 32 dX3_countBetween_26 (by decide) (fun c9 => ?_) (fun c9 => ?_)
          · have hf := gm_it _ c9 hf
            cases hf
            exact gm_lvp [0, 1, 2, 3] rfl key
          · have hf := gm_if _ c9 hf
            obtain ⟨x10, ex10, hf⟩ := gm_lt_s hf
            refine gm_iinc (v := x10) (lv' := [(3, .int x10), (0, .ref (ad 12)), (2, .int a1), (4, .int y2)]) (j := 2) C dX3_countBetween_29 rfl (by rw [ex10]; rfl) (by decide) rfl ?_
            cases hf
            exact gm_lvp [1, 2, 0, 3] rfl key
  obtain ⟨z3, hx, hf⟩ := gm_bp1_s hf
  refine gm_lvp [2, 4, 1, 0] rfl (L5 fl _ _ _ hx ?_)
  refine gm_iload_n C dX3_countBetween_38 rfl 0 rfl ?_
  exact gm_iretK C hr rfl dX3_countBetween_39 hf
theorem dX10_upTo_0 : decode cX10_upTo 0 = .ok (.aload_n 0, 1) := by decide +kernel
theorem dX10_upTo_1 : decode cX10_upTo 1 = .ok (.getfield 19, 3) := by decide +kernel
theorem dX10_upTo_4 : decode cX10_upTo 4 = .ok (.iload_n 1, 1) := by decide +kernel
theorem dX10_upTo_5 : decode cX10_upTo 5 = .ok (.invokevirtual 192, 3) := by decide +kernel
theorem dX10_upTo_8 : decode cX10_upTo 8 = .ok (.ifCond .eq 26, 3) := by decide +kernel
theorem dX10_upTo_11 : decode cX10_upTo 11 = .ok (.aload_n 0, 1) := by decide +kernel
theorem dX10_upTo_12 : decode cX10_upTo 12 = .ok (.getfield 19, 3) := by decide +kernel
theorem dX10_upTo_15 : decode cX10_upTo 15 = .ok (.iload_n 2, 1) := by decide +kernel
theorem dX10_upTo_16 : decode cX10_upTo 16 = .ok (.invokevirtual 192, 3) := by decide +kernel
theorem dX10_upTo_19 : decode cX10_upTo 19 = .ok (.ifCond .eq 15, 3) := by decide +kernel
theorem dX10_upTo_22 : decode cX10_upTo 22 = .ok (.aload_n 0, 1) := by decide +kernel
theorem dX10_upTo_23 : decode cX10_upTo 23 = .ok (.getfield 26, 3) := by decide +kernel
theorem dX10_upTo_26 : decode cX10_upTo 26 = .ok (.iload_n 1, 1) := by decide +kernel
theorem dX10_upTo_27 : decode cX10_upTo 27 = .ok (.iload_n 2, 1) := by decide +kernel
theorem dX10_upTo_28 : decode cX10_upTo 28 = .ok (.invokevirtual 234, 3) := by decide +kernel
theorem dX10_upTo_31 : decode cX10_upTo 31 = .ok (.goto 5, 3) := by decide +kernel
theorem dX10_upTo_34 : decode cX10_upTo 34 = .ok (.ldc 62, 2) := by decide +kernel
theorem dX10_upTo_36 : decode cX10_upTo 36 = .ok (.ireturn, 1) := by decide +kernel
def Lt_upTo (fl : Nat) (a0 : Int32) (a1 : Int32) (S : gm_M) : Option Int32 :=
  gm_bp1 (Tr_hasNumber fl 8 a0 S) fun v1 =>
  if v1 = 0 then (
    some ((-1000000002))
  ) else (
    gm_bp1 (Tr_hasNumber fl 8 a1 S) fun v3 =>
    if v3 = 0 then (
      some ((-1000000002))
    ) else (
      gm_bp1 (Tb_countBetween fl a0 a1 S) fun v5 =>
      some (v5)
    )
  )
set_option maxHeartbeats 4000000 in
set_option maxRecDepth 100000 in
theorem Lt_upTo_c (l : Launch) (cf : gm_C) (ad : Nat → Nat) {fl : Nat}   {a0 : Int32} {a1 : Int32} {S : gm_M} {r : Int32}  (hf : Lt_upTo fl a0 a1 S = some r) : gm_Met l yX10_upTo cX10_upTo 3 (some .int) 2 45 cf ad gm_sC 106 [.ref (ad 0), .int a0, .int a1] S (some (.int r)) S := by
  refine gm_met (by decide +kernel) (Nat.le_of_ble_eq_true rfl) ?_
  intro p e s m args below meth c C hr
  have C : gm_F p s m args meth c cf ad 106 cX10_upTo 3 RX10 := C
  refine gm_lve (lv' := [(0, .ref (ad 0)), (1, .int a0), (2, .int a1)]) rfl ?_
  unfold Lt_upTo at hf
  refine gm_aload_n C dX10_upTo_0 rfl 0 rfl ?_
  refine gm_getr (j := 8) (u := 8) C (Nat.le_of_ble_eq_true rfl) rfl kc_10 (k := 1) rfl (by decide) rfl rfl wl_329 dX10_upTo_1 ?_
  refine gm_iload_n C dX10_upTo_4 rfl 1 rfl ?_
  obtain ⟨v1, ev1, hf⟩ := gm_bp1_s hf
  refine gm_callVi (As := [.int a0]) C (Tr_hasNumber_c l cf ad gm_tr_8 ev1) (Nat.le_of_ble_eq_true rfl) rfl kc_9 wy_Tr_hasNumber rfl wl_660 rfl ⟨(Nat.le_of_ble_eq_true rfl), (Nat.le_of_ble_eq_true rfl)⟩ rfl (Nat.le_of_ble_eq_true rfl) dX10_upTo_5 ?_
  refine gm_if_eq C 34 dX10_upTo_8 (by decide) (fun c2 => ?_) (fun c2 => ?_)
  · have hf := gm_it _ c2 hf
    refine gm_ldc (v := (-1000000002)) C wl_360 dX10_upTo_34 ?_
    exact gm_iretK C hr rfl dX10_upTo_36 hf
  · have hf := gm_if _ c2 hf
    refine gm_aload_n C dX10_upTo_11 rfl 0 rfl ?_
    refine gm_getr (j := 8) (u := 8) C (Nat.le_of_ble_eq_true rfl) rfl kc_10 (k := 1) rfl (by decide) rfl rfl wl_329 dX10_upTo_12 ?_
    refine gm_iload_n C dX10_upTo_15 rfl 2 rfl ?_
    obtain ⟨v3, ev3, hf⟩ := gm_bp1_s hf
    refine gm_callVi (As := [.int a1]) C (Tr_hasNumber_c l cf ad gm_tr_8 ev3) (Nat.le_of_ble_eq_true rfl) rfl kc_9 wy_Tr_hasNumber rfl wl_660 rfl ⟨(Nat.le_of_ble_eq_true rfl), (Nat.le_of_ble_eq_true rfl)⟩ rfl (Nat.le_of_ble_eq_true rfl) dX10_upTo_16 ?_
    refine gm_if_eq C 34 dX10_upTo_19 (by decide) (fun c4 => ?_) (fun c4 => ?_)
    · have hf := gm_it _ c4 hf
      refine gm_ldc (v := (-1000000002)) C wl_360 dX10_upTo_34 ?_
      exact gm_iretK C hr rfl dX10_upTo_36 hf
    · have hf := gm_if _ c4 hf
      refine gm_aload_n C dX10_upTo_22 rfl 0 rfl ?_
      refine gm_getr (j := 12) (u := 12) C (Nat.le_of_ble_eq_true rfl) rfl kc_10 (k := 2) rfl (by decide) rfl rfl wl_330 dX10_upTo_23 ?_
      refine gm_iload_n C dX10_upTo_26 rfl 1 rfl ?_
      refine gm_iload_n C dX10_upTo_27 rfl 2 rfl ?_
      obtain ⟨v5, ev5, hf⟩ := gm_bp1_s hf
      refine gm_callVi (As := [.int a0, .int a1]) C (Tb_countBetween_c l cf ad ev5) (Nat.le_of_ble_eq_true rfl) rfl kc_3 wy_Tb_countBetween rfl wl_768 rfl ⟨(Nat.le_of_ble_eq_true rfl), (Nat.le_of_ble_eq_true rfl)⟩ rfl (Nat.le_of_ble_eq_true rfl) dX10_upTo_28 ?_
      refine gm_goto C 36 dX10_upTo_31 (by decide) ?_
      exact gm_iretK C hr rfl dX10_upTo_36 hf
theorem dX3_numberAfter_0 : decode cX3_numberAfter 0 = .ok (.iconst 0, 1) := by decide +kernel
theorem dX3_numberAfter_1 : decode cX3_numberAfter 1 = .ok (.istore_n 2, 1) := by decide +kernel
theorem dX3_numberAfter_2 : decode cX3_numberAfter 2 = .ok (.iconst 0, 1) := by decide +kernel
theorem dX3_numberAfter_3 : decode cX3_numberAfter 3 = .ok (.istore_n 3, 1) := by decide +kernel
theorem dX3_numberAfter_4 : decode cX3_numberAfter 4 = .ok (.iload_n 3, 1) := by decide +kernel
theorem dX3_numberAfter_5 : decode cX3_numberAfter 5 = .ok (.aload_n 0, 1) := by decide +kernel
theorem dX3_numberAfter_6 : decode cX3_numberAfter 6 = .ok (.getfield 42, 3) := by decide +kernel
theorem dX3_numberAfter_9 : decode cX3_numberAfter 9 = .ok (.if_icmp .ge 27, 3) := by decide +kernel
theorem dX3_numberAfter_12 : decode cX3_numberAfter 12 = .ok (.aload_n 0, 1) := by decide +kernel
theorem dX3_numberAfter_13 : decode cX3_numberAfter 13 = .ok (.iload_n 3, 1) := by decide +kernel
theorem dX3_numberAfter_14 : decode cX3_numberAfter 14 = .ok (.invokevirtual 93, 3) := by decide +kernel
theorem dX3_numberAfter_17 : decode cX3_numberAfter 17 = .ok (.ifCond .eq 13, 3) := by decide +kernel
theorem dX3_numberAfter_20 : decode cX3_numberAfter 20 = .ok (.iload_n 2, 1) := by decide +kernel
theorem dX3_numberAfter_21 : decode cX3_numberAfter 21 = .ok (.iload_n 1, 1) := by decide +kernel
theorem dX3_numberAfter_22 : decode cX3_numberAfter 22 = .ok (.if_icmp .ne 5, 3) := by decide +kernel
theorem dX3_numberAfter_25 : decode cX3_numberAfter 25 = .ok (.iload_n 3, 1) := by decide +kernel
theorem dX3_numberAfter_26 : decode cX3_numberAfter 26 = .ok (.ireturn, 1) := by decide +kernel
theorem dX3_numberAfter_27 : decode cX3_numberAfter 27 = .ok (.iinc 2 1, 3) := by decide +kernel
theorem dX3_numberAfter_30 : decode cX3_numberAfter 30 = .ok (.iinc 3 1, 3) := by decide +kernel
theorem dX3_numberAfter_33 : decode cX3_numberAfter 33 = .ok (.goto (-29), 3) := by decide +kernel
theorem dX3_numberAfter_36 : decode cX3_numberAfter 36 = .ok (.iconst (-1), 1) := by decide +kernel
theorem dX3_numberAfter_37 : decode cX3_numberAfter 37 = .ok (.ireturn, 1) := by decide +kernel
def Tb_numberAfter_L4_b (a0 : Int32) (S : gm_M) (rec : Int32 → Int32 → Option Int32) (y1 : Int32) (y2 : Int32) : Option Int32 :=
  if S.1 12 5 ≤ y2 then (
    some ((-1))
  ) else (
    gm_bp1 (Tb_isLucky y2 S) fun v4 =>
    if v4 = 0 then (
      gm_lt (α := Int32) (y2 + 1) fun x6 =>
      rec y1 x6
    ) else (
      if y1 = a0 then (
        some (y2)
      ) else (
        gm_lt (α := Int32) (y1 + 1) fun x8 =>
        gm_lt (α := Int32) (y2 + 1) fun x9 =>
        rec x8 x9
      )
    )
  )
def Tb_numberAfter_L4 (a0 : Int32) (S : gm_M) : Nat → Int32 → Int32 → Option Int32
  | 0 => fun _ _ => none
  | n + 1 => Tb_numberAfter_L4_b a0 S (Tb_numberAfter_L4 a0 S n)
def Tb_numberAfter (fl : Nat) (a0 : Int32) (S : gm_M) : Option Int32 :=
  Tb_numberAfter_L4 a0 S fl 0 0
set_option maxHeartbeats 4000000 in
set_option maxRecDepth 100000 in
theorem Tb_numberAfter_c (l : Launch) (cf : gm_C) (ad : Nat → Nat) {fl : Nat}   {a0 : Int32} {S : gm_M} {r : Int32}  (hf : Tb_numberAfter fl a0 S = some r) : gm_Met l yX3_numberAfter cX3_numberAfter 4 (some .int) 1 21 cf ad gm_sC 106 [.ref (ad 12), .int a0] S (some (.int r)) S := by
  refine gm_met (by decide +kernel) (Nat.le_of_ble_eq_true rfl) ?_
  intro p e s m args below meth c C hr
  have C : gm_F p s m args meth c cf ad 106 cX3_numberAfter 4 RX3 := C
  refine gm_lve (lv' := [(0, .ref (ad 12)), (1, .int a0)]) rfl ?_
  unfold Tb_numberAfter at hf
  refine gm_iconst (v := 0) C dX3_numberAfter_0 (by decide) ?_
  refine gm_istore_n (lv' := [(2, .int 0), (0, .ref (ad 12)), (1, .int a0)]) C dX3_numberAfter_1 rfl (by decide) rfl ?_
  refine gm_iconst (v := 0) C dX3_numberAfter_2 (by decide) ?_
  refine gm_istore_n (lv' := [(3, .int 0), (2, .int 0), (0, .ref (ad 12)), (1, .int a0)]) C dX3_numberAfter_3 rfl (by decide) rfl ?_
  have L4 : ∀ (n : Nat) (y1 : Int32) (y2 : Int32), Tb_numberAfter_L4 a0 S n y1 y2 = some r → gm_G p l e { frames := 1, cells := 0, slots := 0, locals := 21 } s m args below meth c (MQ below (gm_Q cf ad gm_sC 106 (some (.int r)) S) args s 0 0 (gm_A ad 106)) cf ad gm_sC 106 4 S 4 [(0, .ref (ad 12)), (1, .int a0), (2, .int y1), (3, .int y2)] [] := by
    intro n
    induction n with
    | zero => intro y1 y2 hf; cases (show (none : Option _) = some _ from hf)
    | succ n ih =>
      intro y1 y2 hf
      have hf : Tb_numberAfter_L4_b a0 S (Tb_numberAfter_L4 a0 S n) y1 y2 = some r := hf
      unfold Tb_numberAfter_L4_b at hf
      refine gm_iload_n C dX3_numberAfter_4 rfl 3 rfl ?_
      refine gm_aload_n C dX3_numberAfter_5 rfl 0 rfl ?_
      refine gm_geti C (Nat.le_of_ble_eq_true rfl) rfl kc_3 (k := 5) rfl (by decide) rfl wl_208 dX3_numberAfter_6 ?_
      refine gm_icmp_ge C 36 dX3_numberAfter_9 (by decide) (fun c3 => ?_) (fun c3 => ?_)
      · have hf := gm_it _ c3 hf
        refine gm_iconst (v := (-1)) C dX3_numberAfter_36 (by decide) ?_
        exact gm_iretK C hr rfl dX3_numberAfter_37 hf
      · have hf := gm_if _ c3 hf
        refine gm_aload_n C dX3_numberAfter_12 rfl 0 rfl ?_
        refine gm_iload_n C dX3_numberAfter_13 rfl 3 rfl ?_
        obtain ⟨v4, ev4, hf⟩ := gm_bp1_s hf
        refine gm_callVi (As := [.int y2]) C (Tb_isLucky_c l cf ad ev4) (Nat.le_of_ble_eq_true rfl) rfl kc_3 wy_Tb_isLucky rfl wl_763 rfl ⟨(Nat.le_of_ble_eq_true rfl), (Nat.le_of_ble_eq_true rfl)⟩ rfl (Nat.le_of_ble_eq_true rfl) dX3_numberAfter_14 ?_
        refine gm_if_eq C 30 dX3_numberAfter_17 (by decide) (fun c5 => ?_) (fun c5 => ?_)
        · have hf := gm_it _ c5 hf
          obtain ⟨x6, ex6, hf⟩ := gm_lt_s hf
          refine gm_iinc (v := x6) (lv' := [(3, .int x6), (0, .ref (ad 12)), (1, .int a0), (2, .int y1)]) (j := 3) C dX3_numberAfter_30 rfl (by rw [ex6]; rfl) (by decide) rfl ?_
          refine gm_goto C 4 dX3_numberAfter_33 (by decide) ?_
          exact gm_lvp [1, 2, 3, 0] rfl (ih _ _ hf)
        · have hf := gm_if _ c5 hf
          refine gm_iload_n C dX3_numberAfter_20 rfl 2 rfl ?_
          refine gm_iload_n C dX3_numberAfter_21 rfl 1 rfl ?_
          refine gm_icmp_ne C 27 dX3_numberAfter_22 (by decide) (fun c7 => ?_) (fun c7 => ?_)
          · have hf := gm_if _ c7 hf
            obtain ⟨x8, ex8, hf⟩ := gm_lt_s hf
            refine gm_iinc (v := x8) (lv' := [(2, .int x8), (0, .ref (ad 12)), (1, .int a0), (3, .int y2)]) (j := 2) C dX3_numberAfter_27 rfl (by rw [ex8]; rfl) (by decide) rfl ?_
            obtain ⟨x9, ex9, hf⟩ := gm_lt_s hf
            refine gm_iinc (v := x9) (lv' := [(3, .int x9), (2, .int x8), (0, .ref (ad 12)), (1, .int a0)]) (j := 3) C dX3_numberAfter_30 rfl (by rw [ex9]; rfl) (by decide) rfl ?_
            refine gm_goto C 4 dX3_numberAfter_33 (by decide) ?_
            exact gm_lvp [2, 3, 1, 0] rfl (ih _ _ hf)
          · have hf := gm_it _ c7 hf
            refine gm_iload_n C dX3_numberAfter_25 rfl 3 rfl ?_
            exact gm_iretK C hr rfl dX3_numberAfter_26 hf
  exact gm_lvp [2, 3, 1, 0] rfl (L4 fl _ _ hf)
theorem dX10_kth_0 : decode cX10_kth 0 = .ok (.iload_n 1, 1) := by decide +kernel
theorem dX10_kth_1 : decode cX10_kth 1 = .ok (.ifCond .ge 8, 3) := by decide +kernel
theorem dX10_kth_4 : decode cX10_kth 4 = .ok (.ldc 62, 2) := by decide +kernel
theorem dX10_kth_6 : decode cX10_kth 6 = .ok (.goto 11, 3) := by decide +kernel
theorem dX10_kth_9 : decode cX10_kth 9 = .ok (.aload_n 0, 1) := by decide +kernel
theorem dX10_kth_10 : decode cX10_kth 10 = .ok (.getfield 26, 3) := by decide +kernel
theorem dX10_kth_13 : decode cX10_kth 13 = .ok (.iload_n 1, 1) := by decide +kernel
theorem dX10_kth_14 : decode cX10_kth 14 = .ok (.invokevirtual 237, 3) := by decide +kernel
theorem dX10_kth_17 : decode cX10_kth 17 = .ok (.ireturn, 1) := by decide +kernel
def Lt_kth (fl : Nat) (a0 : Int32) (S : gm_M) : Option Int32 :=
  if (0 : Int32) ≤ a0 then (
    gm_bp1 (Tb_numberAfter fl a0 S) fun v2 =>
    some (v2)
  ) else (
    some ((-1000000002))
  )
set_option maxHeartbeats 4000000 in
set_option maxRecDepth 100000 in
theorem Lt_kth_c (l : Launch) (cf : gm_C) (ad : Nat → Nat) {fl : Nat}   {a0 : Int32} {S : gm_M} {r : Int32}  (hf : Lt_kth fl a0 S = some r) : gm_Met l yX10_kth cX10_kth 2 (some .int) 2 44 cf ad gm_sC 106 [.ref (ad 0), .int a0] S (some (.int r)) S := by
  refine gm_met (by decide +kernel) (Nat.le_of_ble_eq_true rfl) ?_
  intro p e s m args below meth c C hr
  have C : gm_F p s m args meth c cf ad 106 cX10_kth 2 RX10 := C
  refine gm_lve (lv' := [(0, .ref (ad 0)), (1, .int a0)]) rfl ?_
  unfold Lt_kth at hf
  refine gm_iload_n C dX10_kth_0 rfl 1 rfl ?_
  refine gm_if_ge C 9 dX10_kth_1 (by decide) (fun c1 => ?_) (fun c1 => ?_)
  · have hf := gm_it _ c1 hf
    refine gm_aload_n C dX10_kth_9 rfl 0 rfl ?_
    refine gm_getr (j := 12) (u := 12) C (Nat.le_of_ble_eq_true rfl) rfl kc_10 (k := 2) rfl (by decide) rfl rfl wl_330 dX10_kth_10 ?_
    refine gm_iload_n C dX10_kth_13 rfl 1 rfl ?_
    obtain ⟨v2, ev2, hf⟩ := gm_bp1_s hf
    refine gm_callVi (As := [.int a0]) C (Tb_numberAfter_c l cf ad ev2) (Nat.le_of_ble_eq_true rfl) rfl kc_3 wy_Tb_numberAfter rfl wl_776 rfl ⟨(Nat.le_of_ble_eq_true rfl), (Nat.le_of_ble_eq_true rfl)⟩ rfl (Nat.le_of_ble_eq_true rfl) dX10_kth_14 ?_
    exact gm_iretK C hr rfl dX10_kth_17 hf
  · have hf := gm_if _ c1 hf
    refine gm_ldc (v := (-1000000002)) C wl_360 dX10_kth_4 ?_
    refine gm_goto C 17 dX10_kth_6 (by decide) ?_
    exact gm_iretK C hr rfl dX10_kth_17 hf
theorem dX3_lowerOfLongestWait_0 : decode cX3_lowerOfLongestWait 0 = .ok (.iconst (-1), 1) := by decide +kernel
theorem dX3_lowerOfLongestWait_1 : decode cX3_lowerOfLongestWait 1 = .ok (.istore_n 1, 1) := by decide +kernel
theorem dX3_lowerOfLongestWait_2 : decode cX3_lowerOfLongestWait 2 = .ok (.iconst 0, 1) := by decide +kernel
theorem dX3_lowerOfLongestWait_3 : decode cX3_lowerOfLongestWait 3 = .ok (.istore_n 2, 1) := by decide +kernel
theorem dX3_lowerOfLongestWait_4 : decode cX3_lowerOfLongestWait 4 = .ok (.iconst (-1), 1) := by decide +kernel
theorem dX3_lowerOfLongestWait_5 : decode cX3_lowerOfLongestWait 5 = .ok (.istore_n 3, 1) := by decide +kernel
theorem dX3_lowerOfLongestWait_6 : decode cX3_lowerOfLongestWait 6 = .ok (.iconst 0, 1) := by decide +kernel
theorem dX3_lowerOfLongestWait_7 : decode cX3_lowerOfLongestWait 7 = .ok (.istore 4, 2) := by decide +kernel
theorem dX3_lowerOfLongestWait_9 : decode cX3_lowerOfLongestWait 9 = .ok (.iload 4, 2) := by decide +kernel
theorem dX3_lowerOfLongestWait_11 : decode cX3_lowerOfLongestWait 11 = .ok (.aload_n 0, 1) := by decide +kernel
theorem dX3_lowerOfLongestWait_12 : decode cX3_lowerOfLongestWait 12 = .ok (.getfield 42, 3) := by decide +kernel
theorem dX3_lowerOfLongestWait_15 : decode cX3_lowerOfLongestWait 15 = .ok (.if_icmp .ge 41, 3) := by decide +kernel
theorem dX3_lowerOfLongestWait_18 : decode cX3_lowerOfLongestWait 18 = .ok (.aload_n 0, 1) := by decide +kernel
theorem dX3_lowerOfLongestWait_19 : decode cX3_lowerOfLongestWait 19 = .ok (.iload 4, 2) := by decide +kernel
theorem dX3_lowerOfLongestWait_21 : decode cX3_lowerOfLongestWait 21 = .ok (.invokevirtual 93, 3) := by decide +kernel
theorem dX3_lowerOfLongestWait_24 : decode cX3_lowerOfLongestWait 24 = .ok (.ifCond .eq 26, 3) := by decide +kernel
theorem dX3_lowerOfLongestWait_27 : decode cX3_lowerOfLongestWait 27 = .ok (.iload_n 3, 1) := by decide +kernel
theorem dX3_lowerOfLongestWait_28 : decode cX3_lowerOfLongestWait 28 = .ok (.iconst (-1), 1) := by decide +kernel
theorem dX3_lowerOfLongestWait_29 : decode cX3_lowerOfLongestWait 29 = .ok (.if_icmp .eq 18, 3) := by decide +kernel
theorem dX3_lowerOfLongestWait_32 : decode cX3_lowerOfLongestWait 32 = .ok (.iload 4, 2) := by decide +kernel
theorem dX3_lowerOfLongestWait_34 : decode cX3_lowerOfLongestWait 34 = .ok (.iload_n 3, 1) := by decide +kernel
theorem dX3_lowerOfLongestWait_35 : decode cX3_lowerOfLongestWait 35 = .ok (.isub, 1) := by decide +kernel
theorem dX3_lowerOfLongestWait_36 : decode cX3_lowerOfLongestWait 36 = .ok (.iload_n 2, 1) := by decide +kernel
theorem dX3_lowerOfLongestWait_37 : decode cX3_lowerOfLongestWait 37 = .ok (.if_icmp .le 10, 3) := by decide +kernel
theorem dX3_lowerOfLongestWait_40 : decode cX3_lowerOfLongestWait 40 = .ok (.iload_n 3, 1) := by decide +kernel
theorem dX3_lowerOfLongestWait_41 : decode cX3_lowerOfLongestWait 41 = .ok (.istore_n 1, 1) := by decide +kernel
theorem dX3_lowerOfLongestWait_42 : decode cX3_lowerOfLongestWait 42 = .ok (.iload 4, 2) := by decide +kernel
theorem dX3_lowerOfLongestWait_44 : decode cX3_lowerOfLongestWait 44 = .ok (.iload_n 3, 1) := by decide +kernel
theorem dX3_lowerOfLongestWait_45 : decode cX3_lowerOfLongestWait 45 = .ok (.isub, 1) := by decide +kernel
theorem dX3_lowerOfLongestWait_46 : decode cX3_lowerOfLongestWait 46 = .ok (.istore_n 2, 1) := by decide +kernel
theorem dX3_lowerOfLongestWait_47 : decode cX3_lowerOfLongestWait 47 = .ok (.iload 4, 2) := by decide +kernel
theorem dX3_lowerOfLongestWait_49 : decode cX3_lowerOfLongestWait 49 = .ok (.istore_n 3, 1) := by decide +kernel
theorem dX3_lowerOfLongestWait_50 : decode cX3_lowerOfLongestWait 50 = .ok (.iinc 4 1, 3) := by decide +kernel
theorem dX3_lowerOfLongestWait_53 : decode cX3_lowerOfLongestWait 53 = .ok (.goto (-44), 3) := by decide +kernel
theorem dX3_lowerOfLongestWait_56 : decode cX3_lowerOfLongestWait 56 = .ok (.iload_n 1, 1) := by decide +kernel
theorem dX3_lowerOfLongestWait_57 : decode cX3_lowerOfLongestWait 57 = .ok (.ireturn, 1) := by decide +kernel
def Tb_lowerOfLongestWait_L9_b (S : gm_M) (rec : Int32 → Int32 → Int32 → Int32 → Option (Int32)) (y1 : Int32) (y2 : Int32) (y3 : Int32) (y4 : Int32) : Option (Int32) :=
  if S.1 12 5 ≤ y4 then (
    some (y1)
  ) else (
    gm_bp1 (Tb_isLucky y4 S) fun v7 =>
    gm_bp3 (show Option (Int32 × Int32 × Int32) from
      if v7 = 0 then (
        some (y1, y2, y3)
      ) else (
        gm_bp2 (show Option (Int32 × Int32) from
          if y3 = (-1) then (
            some (y1, y2)
          ) else (
            if y4 - y3 ≤ y2 then (
              some (y1, y2)
            ) else (
              gm_lt (α := Int32) (y4 - y3) fun x17 =>
              some (y3, x17)
            )
          )
        ) fun x13 x14 =>
        some (x13, x14, y4)
      )
    ) fun x8 x9 x10 =>
    gm_lt (α := Int32) (y4 + 1) fun x11 =>
    rec x8 x9 x10 x11
  )
def Tb_lowerOfLongestWait_L9 (S : gm_M) : Nat → Int32 → Int32 → Int32 → Int32 → Option (Int32)
  | 0 => fun _ _ _ _ => none
  | n + 1 => Tb_lowerOfLongestWait_L9_b S (Tb_lowerOfLongestWait_L9 S n)
def Tb_lowerOfLongestWait (fl : Nat) (S : gm_M) : Option Int32 :=
  gm_bp1 (Tb_lowerOfLongestWait_L9 S fl (-1) 0 (-1) 0) fun z5 =>
  some (z5)
set_option maxHeartbeats 4000000 in
set_option maxRecDepth 100000 in
theorem Tb_lowerOfLongestWait_c (l : Launch) (cf : gm_C) (ad : Nat → Nat) {fl : Nat}    {S : gm_M} {r : Int32}  (hf : Tb_lowerOfLongestWait fl S = some r) : gm_Met l yX3_lowerOfLongestWait cX3_lowerOfLongestWait 5 (some .int) 1 21 cf ad gm_sC 106 [.ref (ad 12)] S (some (.int r)) S := by
  refine gm_met (by decide +kernel) (Nat.le_of_ble_eq_true rfl) ?_
  intro p e s m args below meth c C hr
  have C : gm_F p s m args meth c cf ad 106 cX3_lowerOfLongestWait 5 RX3 := C
  refine gm_lve (lv' := [(0, .ref (ad 12))]) rfl ?_
  unfold Tb_lowerOfLongestWait at hf
  refine gm_iconst (v := (-1)) C dX3_lowerOfLongestWait_0 (by decide) ?_
  refine gm_istore_n (lv' := [(1, .int (-1)), (0, .ref (ad 12))]) C dX3_lowerOfLongestWait_1 rfl (by decide) rfl ?_
  refine gm_iconst (v := 0) C dX3_lowerOfLongestWait_2 (by decide) ?_
  refine gm_istore_n (lv' := [(2, .int 0), (1, .int (-1)), (0, .ref (ad 12))]) C dX3_lowerOfLongestWait_3 rfl (by decide) rfl ?_
  refine gm_iconst (v := (-1)) C dX3_lowerOfLongestWait_4 (by decide) ?_
  refine gm_istore_n (lv' := [(3, .int (-1)), (2, .int 0), (1, .int (-1)), (0, .ref (ad 12))]) C dX3_lowerOfLongestWait_5 rfl (by decide) rfl ?_
  refine gm_iconst (v := 0) C dX3_lowerOfLongestWait_6 (by decide) ?_
  refine gm_istore (lv' := [(4, .int 0), (3, .int (-1)), (2, .int 0), (1, .int (-1)), (0, .ref (ad 12))]) C dX3_lowerOfLongestWait_7 (by decide) rfl ?_
  have L9 : ∀ (n : Nat) (y1 : Int32) (y2 : Int32) (y3 : Int32) (y4 : Int32) (z5 : Int32), Tb_lowerOfLongestWait_L9 S n y1 y2 y3 y4 = some (z5) → gm_G p l e { frames := 1, cells := 0, slots := 0, locals := 21 } s m args below meth c (MQ below (gm_Q cf ad gm_sC 106 (some (.int r)) S) args s 0 0 (gm_A ad 106)) cf ad gm_sC 106 5 S 56 [(1, .int z5)] [] → gm_G p l e { frames := 1, cells := 0, slots := 0, locals := 21 } s m args below meth c (MQ below (gm_Q cf ad gm_sC 106 (some (.int r)) S) args s 0 0 (gm_A ad 106)) cf ad gm_sC 106 5 S 9 [(0, .ref (ad 12)), (1, .int y1), (2, .int y2), (3, .int y3), (4, .int y4)] [] := by
    intro n
    induction n with
    | zero => intro y1 y2 y3 y4 z5 hf K; cases (show (none : Option _) = some _ from hf)
    | succ n ih =>
      intro y1 y2 y3 y4 z5 hf K
      have hf : Tb_lowerOfLongestWait_L9_b S (Tb_lowerOfLongestWait_L9 S n) y1 y2 y3 y4 = some (z5) := hf
      unfold Tb_lowerOfLongestWait_L9_b at hf
      refine gm_iload C dX3_lowerOfLongestWait_9 4 rfl ?_
      refine gm_aload_n C dX3_lowerOfLongestWait_11 rfl 0 rfl ?_
      refine gm_geti C (Nat.le_of_ble_eq_true rfl) rfl kc_3 (k := 5) rfl (by decide) rfl wl_208 dX3_lowerOfLongestWait_12 ?_
      refine gm_icmp_ge C 56 dX3_lowerOfLongestWait_15 (by decide) (fun c6 => ?_) (fun c6 => ?_)
      · have hf := gm_it _ c6 hf
        cases hf
        exact gm_lvp [1] rfl K
      · have hf := gm_if _ c6 hf
        refine gm_aload_n C dX3_lowerOfLongestWait_18 rfl 0 rfl ?_
        refine gm_iload C dX3_lowerOfLongestWait_19 4 rfl ?_
        obtain ⟨v7, ev7, hf⟩ := gm_bp1_s hf
        refine gm_callVi (As := [.int y4]) C (Tb_isLucky_c l cf ad ev7) (Nat.le_of_ble_eq_true rfl) rfl kc_3 wy_Tb_isLucky rfl wl_763 rfl ⟨(Nat.le_of_ble_eq_true rfl), (Nat.le_of_ble_eq_true rfl)⟩ rfl (Nat.le_of_ble_eq_true rfl) dX3_lowerOfLongestWait_21 ?_
        obtain ⟨x8, x9, x10, hx, hf⟩ := gm_bp3_s hf
        have key : gm_G p l e { frames := 1, cells := 0, slots := 0, locals := 21 } s m args below meth c (MQ below (gm_Q cf ad gm_sC 106 (some (.int r)) S) args s 0 0 (gm_A ad 106)) cf ad gm_sC 106 5 S 50 [(0, .ref (ad 12)), (1, .int x8), (2, .int x9), (3, .int x10), (4, .int y4)] [] := by
          obtain ⟨x11, ex11, hf⟩ := gm_lt_s hf
          refine gm_iinc (v := x11) (lv' := [(4, .int x11), (0, .ref (ad 12)), (1, .int x8), (2, .int x9), (3, .int x10)]) (j := 4) C dX3_lowerOfLongestWait_50 rfl (by rw [ex11]; rfl) (by decide) rfl ?_
          refine gm_goto C 9 dX3_lowerOfLongestWait_53 (by decide) ?_
          exact gm_lvp [1, 2, 3, 4, 0] rfl (ih _ _ _ _ _ hf K)
        have hf := hx
        refine gm_if_eq C 50 dX3_lowerOfLongestWait_24 (by decide) (fun c12 => ?_) (fun c12 => ?_)
        · have hf := gm_it _ c12 hf
          cases hf
          exact gm_lvp [0, 1, 2, 3, 4] rfl key
        · have hf := gm_if _ c12 hf
          refine gm_iload_n C dX3_lowerOfLongestWait_27 rfl 3 rfl ?_
          refine gm_iconst (v := (-1)) C dX3_lowerOfLongestWait_28 (by decide) ?_
          obtain ⟨x13, x14, hx, hf⟩ := gm_bp2_s hf
          have key : gm_G p l e { frames := 1, cells := 0, slots := 0, locals := 21 } s m args below meth c (MQ below (gm_Q cf ad gm_sC 106 (some (.int r)) S) args s 0 0 (gm_A ad 106)) cf ad gm_sC 106 5 S 47 [(0, .ref (ad 12)), (1, .int x13), (2, .int x14), (4, .int y4)] [] := by
            refine gm_iload C dX3_lowerOfLongestWait_47 3 rfl ?_
            refine gm_istore_n (lv' := [(3, .int y4), (0, .ref (ad 12)), (1, .int x13), (2, .int x14), (4, .int y4)]) C dX3_lowerOfLongestWait_49 rfl (by decide) rfl ?_
            cases hf
            exact gm_lvp [1, 2, 3, 0, 4] rfl key
          have hf := hx
          refine gm_icmp_eq C 47 dX3_lowerOfLongestWait_29 (by decide) (fun c15 => ?_) (fun c15 => ?_)
          · have hf := gm_it _ c15 hf
            cases hf
            exact gm_lvp [0, 1, 2, 4] rfl key
          · have hf := gm_if _ c15 hf
            refine gm_iload C dX3_lowerOfLongestWait_32 4 rfl ?_
            refine gm_iload_n C dX3_lowerOfLongestWait_34 rfl 3 rfl ?_
            refine gm_isub C dX3_lowerOfLongestWait_35 ?_
            refine gm_iload_n C dX3_lowerOfLongestWait_36 rfl 2 rfl ?_
            refine gm_icmp_le C 47 dX3_lowerOfLongestWait_37 (by decide) (fun c16 => ?_) (fun c16 => ?_)
            · have hf := gm_it _ c16 hf
              cases hf
              exact gm_lvp [0, 1, 2, 4] rfl key
            · have hf := gm_if _ c16 hf
              refine gm_iload_n C dX3_lowerOfLongestWait_40 rfl 3 rfl ?_
              refine gm_istore_n (lv' := [(1, .int y3), (0, .ref (ad 12)), (2, .int y2), (3, .int y3), (4, .int y4)]) C dX3_lowerOfLongestWait_41 rfl (by decide) rfl ?_
              refine gm_iload C dX3_lowerOfLongestWait_42 4 rfl ?_
              refine gm_iload_n C dX3_lowerOfLongestWait_44 rfl 3 rfl ?_
              refine gm_isub C dX3_lowerOfLongestWait_45 ?_
              obtain ⟨x17, ex17, hf⟩ := gm_lt_s hf
              refine gm_topi ex17 ?_
              refine gm_istore_n (lv' := [(2, .int x17), (1, .int y3), (0, .ref (ad 12)), (3, .int y3), (4, .int y4)]) C dX3_lowerOfLongestWait_46 rfl (by decide) rfl ?_
              cases hf
              exact gm_lvp [2, 1, 0, 4] rfl key
  obtain ⟨z5, hx, hf⟩ := gm_bp1_s hf
  refine gm_lvp [4, 3, 2, 1, 0] rfl (L9 fl _ _ _ _ _ hx ?_)
  refine gm_iload_n C dX3_lowerOfLongestWait_56 rfl 0 rfl ?_
  exact gm_iretK C hr rfl dX3_lowerOfLongestWait_57 hf
theorem dX10_waits_0 : decode cX10_waits 0 = .ok (.iload_n 1, 1) := by decide +kernel
theorem dX10_waits_1 : decode cX10_waits 1 = .ok (.ifCond .lt 8, 3) := by decide +kernel
theorem dX10_waits_4 : decode cX10_waits 4 = .ok (.iload_n 1, 1) := by decide +kernel
theorem dX10_waits_5 : decode cX10_waits 5 = .ok (.iconst 1, 1) := by decide +kernel
theorem dX10_waits_6 : decode cX10_waits 6 = .ok (.if_icmp .le 6, 3) := by decide +kernel
theorem dX10_waits_9 : decode cX10_waits 9 = .ok (.ldc 62, 2) := by decide +kernel
theorem dX10_waits_11 : decode cX10_waits 11 = .ok (.ireturn, 1) := by decide +kernel
theorem dX10_waits_12 : decode cX10_waits 12 = .ok (.aload_n 0, 1) := by decide +kernel
theorem dX10_waits_13 : decode cX10_waits 13 = .ok (.getfield 26, 3) := by decide +kernel
theorem dX10_waits_16 : decode cX10_waits 16 = .ok (.invokevirtual 240, 3) := by decide +kernel
theorem dX10_waits_19 : decode cX10_waits 19 = .ok (.istore_n 2, 1) := by decide +kernel
theorem dX10_waits_20 : decode cX10_waits 20 = .ok (.iload_n 2, 1) := by decide +kernel
theorem dX10_waits_21 : decode cX10_waits 21 = .ok (.iconst (-1), 1) := by decide +kernel
theorem dX10_waits_22 : decode cX10_waits 22 = .ok (.if_icmp .eq 8, 3) := by decide +kernel
theorem dX10_waits_25 : decode cX10_waits 25 = .ok (.iload_n 1, 1) := by decide +kernel
theorem dX10_waits_26 : decode cX10_waits 26 = .ok (.iconst 1, 1) := by decide +kernel
theorem dX10_waits_27 : decode cX10_waits 27 = .ok (.if_icmp .ne 5, 3) := by decide +kernel
theorem dX10_waits_30 : decode cX10_waits 30 = .ok (.iload_n 2, 1) := by decide +kernel
theorem dX10_waits_31 : decode cX10_waits 31 = .ok (.ireturn, 1) := by decide +kernel
theorem dX10_waits_32 : decode cX10_waits 32 = .ok (.aload_n 0, 1) := by decide +kernel
theorem dX10_waits_33 : decode cX10_waits 33 = .ok (.getfield 26, 3) := by decide +kernel
theorem dX10_waits_36 : decode cX10_waits 36 = .ok (.iload_n 2, 1) := by decide +kernel
theorem dX10_waits_37 : decode cX10_waits 37 = .ok (.iconst 1, 1) := by decide +kernel
theorem dX10_waits_38 : decode cX10_waits 38 = .ok (.iadd, 1) := by decide +kernel
theorem dX10_waits_39 : decode cX10_waits 39 = .ok (.invokevirtual 231, 3) := by decide +kernel
theorem dX10_waits_42 : decode cX10_waits 42 = .ok (.iload_n 2, 1) := by decide +kernel
theorem dX10_waits_43 : decode cX10_waits 43 = .ok (.isub, 1) := by decide +kernel
theorem dX10_waits_44 : decode cX10_waits 44 = .ok (.ireturn, 1) := by decide +kernel
def Lt_waits (fl : Nat) (a0 : Int32) (S : gm_M) : Option Int32 :=
  if a0 < 0 then (
    some ((-1000000002))
  ) else (
    if a0 ≤ 1 then (
      gm_bp1 (Tb_lowerOfLongestWait fl S) fun v3 =>
      if v3 = (-1) then (
        some (v3)
      ) else (
        if a0 = 1 then (
          some (v3)
        ) else (
          gm_bp1 (Tb_nextFrom fl (v3 + 1) S) fun v6 =>
          some (v6 - v3)
        )
      )
    ) else (
      some ((-1000000002))
    )
  )
set_option maxHeartbeats 4000000 in
set_option maxRecDepth 100000 in
theorem Lt_waits_c (l : Launch) (cf : gm_C) (ad : Nat → Nat) {fl : Nat}   {a0 : Int32} {S : gm_M} {r : Int32}  (hf : Lt_waits fl a0 S = some r) : gm_Met l yX10_waits cX10_waits 3 (some .int) 2 45 cf ad gm_sC 106 [.ref (ad 0), .int a0] S (some (.int r)) S := by
  refine gm_met (by decide +kernel) (Nat.le_of_ble_eq_true rfl) ?_
  intro p e s m args below meth c C hr
  have C : gm_F p s m args meth c cf ad 106 cX10_waits 3 RX10 := C
  refine gm_lve (lv' := [(0, .ref (ad 0)), (1, .int a0)]) rfl ?_
  unfold Lt_waits at hf
  refine gm_iload_n C dX10_waits_0 rfl 1 rfl ?_
  refine gm_if_lt C 9 dX10_waits_1 (by decide) (fun c1 => ?_) (fun c1 => ?_)
  · have hf := gm_it _ c1 hf
    refine gm_ldc (v := (-1000000002)) C wl_360 dX10_waits_9 ?_
    exact gm_iretK C hr rfl dX10_waits_11 hf
  · have hf := gm_if _ c1 hf
    refine gm_iload_n C dX10_waits_4 rfl 1 rfl ?_
    refine gm_iconst (v := 1) C dX10_waits_5 (by decide) ?_
    refine gm_icmp_le C 12 dX10_waits_6 (by decide) (fun c2 => ?_) (fun c2 => ?_)
    · have hf := gm_it _ c2 hf
      refine gm_aload_n C dX10_waits_12 rfl 0 rfl ?_
      refine gm_getr (j := 12) (u := 12) C (Nat.le_of_ble_eq_true rfl) rfl kc_10 (k := 2) rfl (by decide) rfl rfl wl_330 dX10_waits_13 ?_
      obtain ⟨v3, ev3, hf⟩ := gm_bp1_s hf
      refine gm_callVi (As := []) C (Tb_lowerOfLongestWait_c l cf ad ev3) (Nat.le_of_ble_eq_true rfl) rfl kc_3 wy_Tb_lowerOfLongestWait rfl wl_784 rfl ⟨(Nat.le_of_ble_eq_true rfl), (Nat.le_of_ble_eq_true rfl)⟩ rfl (Nat.le_of_ble_eq_true rfl) dX10_waits_16 ?_
      refine gm_istore_n (lv' := [(2, .int v3), (0, .ref (ad 0)), (1, .int a0)]) C dX10_waits_19 rfl (by decide) rfl ?_
      refine gm_iload_n C dX10_waits_20 rfl 0 rfl ?_
      refine gm_iconst (v := (-1)) C dX10_waits_21 (by decide) ?_
      refine gm_icmp_eq C 30 dX10_waits_22 (by decide) (fun c4 => ?_) (fun c4 => ?_)
      · have hf := gm_it _ c4 hf
        refine gm_iload_n C dX10_waits_30 rfl 0 rfl ?_
        exact gm_iretK C hr rfl dX10_waits_31 hf
      · have hf := gm_if _ c4 hf
        refine gm_iload_n C dX10_waits_25 rfl 2 rfl ?_
        refine gm_iconst (v := 1) C dX10_waits_26 (by decide) ?_
        refine gm_icmp_ne C 32 dX10_waits_27 (by decide) (fun c5 => ?_) (fun c5 => ?_)
        · have hf := gm_if _ c5 hf
          refine gm_aload_n C dX10_waits_32 rfl 1 rfl ?_
          refine gm_getr (j := 12) (u := 12) C (Nat.le_of_ble_eq_true rfl) rfl kc_10 (k := 2) rfl (by decide) rfl rfl wl_330 dX10_waits_33 ?_
          refine gm_iload_n C dX10_waits_36 rfl 0 rfl ?_
          refine gm_iconst (v := 1) C dX10_waits_37 (by decide) ?_
          refine gm_iadd C dX10_waits_38 ?_
          obtain ⟨v6, ev6, hf⟩ := gm_bp1_s hf
          refine gm_callVi (As := [.int (v3 + 1)]) C (Tb_nextFrom_c l cf ad ev6) (Nat.le_of_ble_eq_true rfl) rfl kc_3 wy_Tb_nextFrom rfl wl_759 rfl ⟨(Nat.le_of_ble_eq_true rfl), (Nat.le_of_ble_eq_true rfl)⟩ rfl (Nat.le_of_ble_eq_true rfl) dX10_waits_39 ?_
          refine gm_iload_n C dX10_waits_42 rfl 0 rfl ?_
          refine gm_isub C dX10_waits_43 ?_
          exact gm_iretK C hr rfl dX10_waits_44 hf
        · have hf := gm_it _ c5 hf
          refine gm_iload_n C dX10_waits_30 rfl 0 rfl ?_
          exact gm_iretK C hr rfl dX10_waits_31 hf
    · have hf := gm_if _ c2 hf
      refine gm_ldc (v := (-1000000002)) C wl_360 dX10_waits_9 ?_
      exact gm_iretK C hr rfl dX10_waits_11 hf
theorem dX10_dry_0 : decode cX10_dry 0 = .ok (.iload_n 1, 1) := by decide +kernel
theorem dX10_dry_1 : decode cX10_dry 1 = .ok (.ifCond .lt 19, 3) := by decide +kernel
theorem dX10_dry_4 : decode cX10_dry 4 = .ok (.iload_n 1, 1) := by decide +kernel
theorem dX10_dry_5 : decode cX10_dry 5 = .ok (.bipush 60, 2) := by decide +kernel
theorem dX10_dry_7 : decode cX10_dry 7 = .ok (.if_icmp .gt 13, 3) := by decide +kernel
theorem dX10_dry_10 : decode cX10_dry 10 = .ok (.iload_n 2, 1) := by decide +kernel
theorem dX10_dry_11 : decode cX10_dry 11 = .ok (.ifCond .lt 9, 3) := by decide +kernel
theorem dX10_dry_14 : decode cX10_dry 14 = .ok (.iload_n 2, 1) := by decide +kernel
theorem dX10_dry_15 : decode cX10_dry 15 = .ok (.bipush 100, 2) := by decide +kernel
theorem dX10_dry_17 : decode cX10_dry 17 = .ok (.if_icmp .le 6, 3) := by decide +kernel
theorem dX10_dry_20 : decode cX10_dry 20 = .ok (.ldc 62, 2) := by decide +kernel
theorem dX10_dry_22 : decode cX10_dry 22 = .ok (.ireturn, 1) := by decide +kernel
theorem dX10_dry_23 : decode cX10_dry 23 = .ok (.ldc2_w 243, 3) := by decide +kernel
theorem dX10_dry_26 : decode cX10_dry 26 = .ok (.lstore_n 3, 1) := by decide +kernel
theorem dX10_dry_27 : decode cX10_dry 27 = .ok (.iconst 0, 1) := by decide +kernel
theorem dX10_dry_28 : decode cX10_dry 28 = .ok (.istore 5, 2) := by decide +kernel
theorem dX10_dry_30 : decode cX10_dry 30 = .ok (.iload 5, 2) := by decide +kernel
theorem dX10_dry_32 : decode cX10_dry 32 = .ok (.iload_n 1, 1) := by decide +kernel
theorem dX10_dry_33 : decode cX10_dry 33 = .ok (.if_icmp .ge 18, 3) := by decide +kernel
theorem dX10_dry_36 : decode cX10_dry 36 = .ok (.lload_n 3, 1) := by decide +kernel
theorem dX10_dry_37 : decode cX10_dry 37 = .ok (.iload_n 2, 1) := by decide +kernel
theorem dX10_dry_38 : decode cX10_dry 38 = .ok (.i2l, 1) := by decide +kernel
theorem dX10_dry_39 : decode cX10_dry 39 = .ok (.lmul, 1) := by decide +kernel
theorem dX10_dry_40 : decode cX10_dry 40 = .ok (.ldc2_w 245, 3) := by decide +kernel
theorem dX10_dry_43 : decode cX10_dry 43 = .ok (.ldiv, 1) := by decide +kernel
theorem dX10_dry_44 : decode cX10_dry 44 = .ok (.lstore_n 3, 1) := by decide +kernel
theorem dX10_dry_45 : decode cX10_dry 45 = .ok (.iinc 5 1, 3) := by decide +kernel
theorem dX10_dry_48 : decode cX10_dry 48 = .ok (.goto (-18), 3) := by decide +kernel
theorem dX10_dry_51 : decode cX10_dry 51 = .ok (.lload_n 3, 1) := by decide +kernel
theorem dX10_dry_52 : decode cX10_dry 52 = .ok (.l2i, 1) := by decide +kernel
theorem dX10_dry_53 : decode cX10_dry 53 = .ok (.ireturn, 1) := by decide +kernel
def Lt_dry_L30_b (a0 : Int32) (a1 : Int32) (rec : Int64 → Int32 → Option (Int64)) (y5 : Int64) (y6 : Int32) : Option (Int64) :=
  if a0 ≤ y6 then (
    some (y5)
  ) else (
    gm_lt (α := Int64) ((y5 * ((a1 : Int32).toInt64)) / 100) fun x9 =>
    gm_lt (α := Int32) (y6 + 1) fun x10 =>
    rec x9 x10
  )
def Lt_dry_L30 (a0 : Int32) (a1 : Int32) : Nat → Int64 → Int32 → Option (Int64)
  | 0 => fun _ _ => none
  | n + 1 => Lt_dry_L30_b a0 a1 (Lt_dry_L30 a0 a1 n)
def Lt_dry (fl : Nat) (a0 : Int32) (a1 : Int32) : Option Int32 :=
  if a0 < 0 then (
    some ((-1000000002))
  ) else (
    if (60 : Int32) < a0 then (
      some ((-1000000002))
    ) else (
      if a1 < 0 then (
        some ((-1000000002))
      ) else (
        if a1 ≤ 100 then (
          gm_bp1 (Lt_dry_L30 a0 a1 fl 1000000000 0) fun z7 =>
          some ((z7 : Int64).toInt32)
        ) else (
          some ((-1000000002))
        )
      )
    )
  )
set_option maxHeartbeats 4000000 in
set_option maxRecDepth 100000 in
theorem Lt_dry_c (l : Launch) (cf : gm_C) (ad : Nat → Nat) {fl : Nat}   {a0 : Int32} {a1 : Int32} {S : gm_M} {r : Int32}  (hf : Lt_dry fl a0 a1 = some r) : gm_Met l yX10_dry cX10_dry 6 (some .int) 0 0 cf ad gm_sC 106 [.ref (ad 0), .int a0, .int a1] S (some (.int r)) S := by
  refine gm_met (by decide +kernel) (Nat.le_of_ble_eq_true rfl) ?_
  intro p e s m args below meth c C hr
  have C : gm_F p s m args meth c cf ad 106 cX10_dry 6 RX10 := C
  refine gm_lve (lv' := [(0, .ref (ad 0)), (1, .int a0), (2, .int a1)]) rfl ?_
  unfold Lt_dry at hf
  refine gm_iload_n C dX10_dry_0 rfl 1 rfl ?_
  refine gm_if_lt C 20 dX10_dry_1 (by decide) (fun c1 => ?_) (fun c1 => ?_)
  · have hf := gm_it _ c1 hf
    refine gm_ldc (v := (-1000000002)) C wl_360 dX10_dry_20 ?_
    exact gm_iretK C hr rfl dX10_dry_22 hf
  · have hf := gm_if _ c1 hf
    refine gm_iload_n C dX10_dry_4 rfl 1 rfl ?_
    refine gm_bipush (v := 60) C dX10_dry_5 (by decide) ?_
    refine gm_icmp_gt C 20 dX10_dry_7 (by decide) (fun c2 => ?_) (fun c2 => ?_)
    · have hf := gm_it _ c2 hf
      refine gm_ldc (v := (-1000000002)) C wl_360 dX10_dry_20 ?_
      exact gm_iretK C hr rfl dX10_dry_22 hf
    · have hf := gm_if _ c2 hf
      refine gm_iload_n C dX10_dry_10 rfl 2 rfl ?_
      refine gm_if_lt C 20 dX10_dry_11 (by decide) (fun c3 => ?_) (fun c3 => ?_)
      · have hf := gm_it _ c3 hf
        refine gm_ldc (v := (-1000000002)) C wl_360 dX10_dry_20 ?_
        exact gm_iretK C hr rfl dX10_dry_22 hf
      · have hf := gm_if _ c3 hf
        refine gm_iload_n C dX10_dry_14 rfl 2 rfl ?_
        refine gm_bipush (v := 100) C dX10_dry_15 (by decide) ?_
        refine gm_icmp_le C 23 dX10_dry_17 (by decide) (fun c4 => ?_) (fun c4 => ?_)
        · have hf := gm_it _ c4 hf
          refine gm_ldc2 (v := 1000000000) C wl_792 dX10_dry_23 ?_
          refine gm_lstore_n (lv' := [(3, .long 1000000000), (0, .ref (ad 0)), (1, .int a0), (2, .int a1)]) C dX10_dry_26 rfl (by decide) rfl ?_
          refine gm_iconst (v := 0) C dX10_dry_27 (by decide) ?_
          refine gm_istore (lv' := [(5, .int 0), (3, .long 1000000000), (0, .ref (ad 0)), (1, .int a0), (2, .int a1)]) C dX10_dry_28 (by decide) rfl ?_
          have L30 : ∀ (n : Nat) (y5 : Int64) (y6 : Int32) (z7 : Int64), Lt_dry_L30 a0 a1 n y5 y6 = some (z7) → gm_G p l e { frames := 0, cells := 0, slots := 0, locals := 0 } s m args below meth c (MQ below (gm_Q cf ad gm_sC 106 (some (.int r)) S) args s 0 0 (gm_A ad 106)) cf ad gm_sC 106 6 S 51 [(3, .long z7)] [] → gm_G p l e { frames := 0, cells := 0, slots := 0, locals := 0 } s m args below meth c (MQ below (gm_Q cf ad gm_sC 106 (some (.int r)) S) args s 0 0 (gm_A ad 106)) cf ad gm_sC 106 6 S 30 [(1, .int a0), (2, .int a1), (3, .long y5), (5, .int y6)] [] := by
            intro n
            induction n with
            | zero => intro y5 y6 z7 hf K; cases (show (none : Option _) = some _ from hf)
            | succ n ih =>
              intro y5 y6 z7 hf K
              have hf : Lt_dry_L30_b a0 a1 (Lt_dry_L30 a0 a1 n) y5 y6 = some (z7) := hf
              unfold Lt_dry_L30_b at hf
              refine gm_iload C dX10_dry_30 3 rfl ?_
              refine gm_iload_n C dX10_dry_32 rfl 0 rfl ?_
              refine gm_icmp_ge C 51 dX10_dry_33 (by decide) (fun c8 => ?_) (fun c8 => ?_)
              · have hf := gm_it _ c8 hf
                cases hf
                exact gm_lvp [2] rfl K
              · have hf := gm_if _ c8 hf
                refine gm_lload_n C dX10_dry_36 rfl 2 rfl ?_
                refine gm_iload_n C dX10_dry_37 rfl 1 rfl ?_
                refine gm_i2l C dX10_dry_38 rfl ?_
                refine gm_lmul C dX10_dry_39 ?_
                refine gm_ldc2 (v := 100) C wl_793 dX10_dry_40 ?_
                refine gm_ldiv C dX10_dry_43 (by decide) ?_
                obtain ⟨x9, ex9, hf⟩ := gm_lt_s hf
                refine gm_topl ex9 ?_
                refine gm_lstore_n (lv' := [(3, .long x9), (1, .int a0), (2, .int a1), (5, .int y6)]) C dX10_dry_44 rfl (by decide) rfl ?_
                obtain ⟨x10, ex10, hf⟩ := gm_lt_s hf
                refine gm_iinc (v := x10) (lv' := [(5, .int x10), (3, .long x9), (1, .int a0), (2, .int a1)]) (j := 3) C dX10_dry_45 rfl (by rw [ex10]; rfl) (by decide) rfl ?_
                refine gm_goto C 30 dX10_dry_48 (by decide) ?_
                exact gm_lvp [2, 3, 1, 0] rfl (ih _ _ _ hf K)
          obtain ⟨z7, hx, hf⟩ := gm_bp1_s hf
          refine gm_lvp [3, 4, 1, 0] rfl (L30 fl _ _ _ hx ?_)
          refine gm_lload_n C dX10_dry_51 rfl 0 rfl ?_
          refine gm_l2i C dX10_dry_52 rfl ?_
          exact gm_iretK C hr rfl dX10_dry_53 hf
        · have hf := gm_if _ c4 hf
          refine gm_ldc (v := (-1000000002)) C wl_360 dX10_dry_20 ?_
          exact gm_iretK C hr rfl dX10_dry_22 hf
theorem dX1_takeIn_0 : decode cX1_takeIn 0 = .ok (.aload_n 0, 1) := by decide +kernel
theorem dX1_takeIn_1 : decode cX1_takeIn 1 = .ok (.getfield 20, 3) := by decide +kernel
theorem dX1_takeIn_4 : decode cX1_takeIn 4 = .ok (.iload_n 1, 1) := by decide +kernel
theorem dX1_takeIn_5 : decode cX1_takeIn 5 = .ok (.aload_n 0, 1) := by decide +kernel
theorem dX1_takeIn_6 : decode cX1_takeIn 6 = .ok (.getfield 28, 3) := by decide +kernel
theorem dX1_takeIn_9 : decode cX1_takeIn 9 = .ok (.invokevirtual 60, 3) := by decide +kernel
theorem dX1_takeIn_12 : decode cX1_takeIn 12 = .ok (.iconst 0, 1) := by decide +kernel
theorem dX1_takeIn_13 : decode cX1_takeIn 13 = .ok (.istore_n 3, 1) := by decide +kernel
theorem dX1_takeIn_14 : decode cX1_takeIn 14 = .ok (.iconst 0, 1) := by decide +kernel
theorem dX1_takeIn_15 : decode cX1_takeIn 15 = .ok (.istore 4, 2) := by decide +kernel
theorem dX1_takeIn_17 : decode cX1_takeIn 17 = .ok (.iload 4, 2) := by decide +kernel
theorem dX1_takeIn_19 : decode cX1_takeIn 19 = .ok (.aload_n 0, 1) := by decide +kernel
theorem dX1_takeIn_20 : decode cX1_takeIn 20 = .ok (.getfield 34, 3) := by decide +kernel
theorem dX1_takeIn_23 : decode cX1_takeIn 23 = .ok (.if_icmp .ge 43, 3) := by decide +kernel
theorem dX1_takeIn_26 : decode cX1_takeIn 26 = .ok (.aload_n 0, 1) := by decide +kernel
theorem dX1_takeIn_27 : decode cX1_takeIn 27 = .ok (.getfield 11, 3) := by decide +kernel
theorem dX1_takeIn_30 : decode cX1_takeIn 30 = .ok (.iload 4, 2) := by decide +kernel
theorem dX1_takeIn_32 : decode cX1_takeIn 32 = .ok (.iaload, 1) := by decide +kernel
theorem dX1_takeIn_33 : decode cX1_takeIn 33 = .ok (.aload_n 0, 1) := by decide +kernel
theorem dX1_takeIn_34 : decode cX1_takeIn 34 = .ok (.getfield 20, 3) := by decide +kernel
theorem dX1_takeIn_37 : decode cX1_takeIn 37 = .ok (.invokestatic 63, 3) := by decide +kernel
theorem dX1_takeIn_40 : decode cX1_takeIn 40 = .ok (.iload_n 2, 1) := by decide +kernel
theorem dX1_takeIn_41 : decode cX1_takeIn 41 = .ok (.if_icmp .ne 19, 3) := by decide +kernel
theorem dX1_takeIn_44 : decode cX1_takeIn 44 = .ok (.aload_n 0, 1) := by decide +kernel
theorem dX1_takeIn_45 : decode cX1_takeIn 45 = .ok (.getfield 11, 3) := by decide +kernel
theorem dX1_takeIn_48 : decode cX1_takeIn 48 = .ok (.iload_n 3, 1) := by decide +kernel
theorem dX1_takeIn_49 : decode cX1_takeIn 49 = .ok (.aload_n 0, 1) := by decide +kernel
theorem dX1_takeIn_50 : decode cX1_takeIn 50 = .ok (.getfield 11, 3) := by decide +kernel
theorem dX1_takeIn_53 : decode cX1_takeIn 53 = .ok (.iload 4, 2) := by decide +kernel
theorem dX1_takeIn_55 : decode cX1_takeIn 55 = .ok (.iaload, 1) := by decide +kernel
theorem dX1_takeIn_56 : decode cX1_takeIn 56 = .ok (.iastore, 1) := by decide +kernel
theorem dX1_takeIn_57 : decode cX1_takeIn 57 = .ok (.iinc 3 1, 3) := by decide +kernel
theorem dX1_takeIn_60 : decode cX1_takeIn 60 = .ok (.iinc 4 1, 3) := by decide +kernel
theorem dX1_takeIn_63 : decode cX1_takeIn 63 = .ok (.goto (-46), 3) := by decide +kernel
theorem dX1_takeIn_66 : decode cX1_takeIn 66 = .ok (.aload_n 0, 1) := by decide +kernel
theorem dX1_takeIn_67 : decode cX1_takeIn 67 = .ok (.iload_n 3, 1) := by decide +kernel
theorem dX1_takeIn_68 : decode cX1_takeIn 68 = .ok (.putfield 34, 3) := by decide +kernel
theorem dX1_takeIn_71 : decode cX1_takeIn 71 = .ok (.aload_n 0, 1) := by decide +kernel
theorem dX1_takeIn_72 : decode cX1_takeIn 72 = .ok (.dup, 1) := by decide +kernel
theorem dX1_takeIn_73 : decode cX1_takeIn 73 = .ok (.getfield 31, 3) := by decide +kernel
theorem dX1_takeIn_76 : decode cX1_takeIn 76 = .ok (.iconst 1, 1) := by decide +kernel
theorem dX1_takeIn_77 : decode cX1_takeIn 77 = .ok (.iadd, 1) := by decide +kernel
theorem dX1_takeIn_78 : decode cX1_takeIn 78 = .ok (.putfield 31, 3) := by decide +kernel
theorem dX1_takeIn_81 : decode cX1_takeIn 81 = .ok (.aload_n 0, 1) := by decide +kernel
theorem dX1_takeIn_82 : decode cX1_takeIn 82 = .ok (.iconst 0, 1) := by decide +kernel
theorem dX1_takeIn_83 : decode cX1_takeIn 83 = .ok (.putfield 37, 3) := by decide +kernel
theorem dX1_takeIn_86 : decode cX1_takeIn 86 = .ok (.return_, 1) := by decide +kernel
def Gs_takeIn_L17_b (fl : Nat) (a1 : Int32) (rec : Int32 → Int32 → gm_M → Option (Int32 × gm_M)) (y2 : Int32) (y3 : Int32) (S4 : gm_M) : Option (Int32 × gm_M) :=
  if S4.1 88 2 ≤ y3 then (
    some (y2, S4)
  ) else (
    gm_ck (y3) 171 <|
    gm_bp1 (Ru_sayYes fl 90 (S4.1 89 y3.toNatClampNeg) S4) fun v9 =>
    gm_bp2 (show Option (Int32 × gm_M) from
      if v9 = a1 then (
        gm_ck (y3) 171 <|
        gm_ck (y2) 171 <|
        gm_lt (α := gm_M) (gm_ui S4 89 (y2.toNatClampNeg) (S4.1 89 y3.toNatClampNeg)) fun S16 =>
        gm_lt (α := Int32) (y2 + 1) fun x17 =>
        some (x17, S16)
      ) else (
        some (y2, S4)
      )
    ) fun x10 S11 =>
    gm_lt (α := Int32) (y3 + 1) fun x12 =>
    rec x10 x12 S11
  )
def Gs_takeIn_L17 (fl : Nat) (a1 : Int32) : Nat → Int32 → Int32 → gm_M → Option (Int32 × gm_M)
  | 0 => fun _ _ _ => none
  | n + 1 => Gs_takeIn_L17_b fl a1 (Gs_takeIn_L17 fl a1 n)
def Gs_takeIn (fl : Nat) (a0 : Int32) (a1 : Int32) (S : gm_M) : Option gm_M :=
  gm_bp1 (Tk_spell fl 90 a0 (S.1 88 4) S) fun S1 =>
  gm_bp2 (Gs_takeIn_L17 fl a1 fl 0 0 S1) fun z5 S6 =>
  gm_lt (α := gm_M) (gm_ui S6 88 2 z5) fun S18 =>
  gm_lt (α := gm_M) (gm_ui S18 88 3 ((S18.1 88 3) + 1)) fun S19 =>
  gm_lt (α := gm_M) (gm_ui S19 88 6 0) fun S20 =>
  some S20
set_option maxHeartbeats 4000000 in
set_option maxRecDepth 100000 in
theorem Gs_takeIn_c (l : Launch) (cf : gm_C) (ad : Nat → Nat) {fl : Nat}   {a0 : Int32} {a1 : Int32} {S : gm_M}  {S'  : gm_M} (hf : Gs_takeIn fl a0 a1 S = some S') : gm_Met l yX1_takeIn cX1_takeIn 5 none 3 58 cf ad gm_sC 106 [.ref (ad 88), .int a0, .int a1] S none S' := by
  refine gm_met (by decide +kernel) (Nat.le_of_ble_eq_true rfl) ?_
  intro p e s m args below meth c C hr
  have C : gm_F p s m args meth c cf ad 106 cX1_takeIn 5 RX1 := C
  refine gm_lve (lv' := [(0, .ref (ad 88)), (1, .int a0), (2, .int a1)]) rfl ?_
  unfold Gs_takeIn at hf
  refine gm_aload_n C dX1_takeIn_0 rfl 0 rfl ?_
  refine gm_getr (j := 2) (u := 90) C (Nat.le_of_ble_eq_true rfl) rfl kc_1 (k := 1) rfl (by decide) rfl rfl wl_265 dX1_takeIn_1 ?_
  refine gm_iload_n C dX1_takeIn_4 rfl 1 rfl ?_
  refine gm_aload_n C dX1_takeIn_5 rfl 0 rfl ?_
  refine gm_geti C (Nat.le_of_ble_eq_true rfl) rfl kc_1 (k := 4) rfl (by decide) rfl wl_270 dX1_takeIn_6 ?_
  obtain ⟨S1, eS1, hf⟩ := gm_bp1_s hf
  refine gm_callVv (As := [.int a0, .int (S.1 88 4)]) C (Tk_spell_c l cf ad gm_tk_90 eS1) (Nat.le_of_ble_eq_true rfl) rfl kc_8 wy_Tk_spell rfl wl_604 rfl ⟨(Nat.le_of_ble_eq_true rfl), (Nat.le_of_ble_eq_true rfl)⟩ rfl (Nat.le_of_ble_eq_true rfl) dX1_takeIn_9 ?_
  refine gm_iconst (v := 0) C dX1_takeIn_12 (by decide) ?_
  refine gm_istore_n (lv' := [(3, .int 0), (0, .ref (ad 88)), (1, .int a0), (2, .int a1)]) C dX1_takeIn_13 rfl (by decide) rfl ?_
  refine gm_iconst (v := 0) C dX1_takeIn_14 (by decide) ?_
  refine gm_istore (lv' := [(4, .int 0), (3, .int 0), (0, .ref (ad 88)), (1, .int a0), (2, .int a1)]) C dX1_takeIn_15 (by decide) rfl ?_
  have L17 : ∀ (n : Nat) (y2 : Int32) (y3 : Int32) (S4 : gm_M) (z5 : Int32) (S6 : gm_M), Gs_takeIn_L17 fl a1 n y2 y3 S4 = some (z5, S6) → gm_G p l e { frames := 3, cells := 0, slots := 0, locals := 58 } s m args below meth c (MQ below (gm_Q cf ad gm_sC 106 none S') args s 0 0 (gm_A ad 106)) cf ad gm_sC 106 5 S6 66 [(0, .ref (ad 88)), (3, .int z5)] [] → gm_G p l e { frames := 3, cells := 0, slots := 0, locals := 58 } s m args below meth c (MQ below (gm_Q cf ad gm_sC 106 none S') args s 0 0 (gm_A ad 106)) cf ad gm_sC 106 5 S4 17 [(0, .ref (ad 88)), (2, .int a1), (3, .int y2), (4, .int y3)] [] := by
    intro n
    induction n with
    | zero => intro y2 y3 S4 z5 S6 hf K; cases (show (none : Option _) = some _ from hf)
    | succ n ih =>
      intro y2 y3 S4 z5 S6 hf K
      have hf : Gs_takeIn_L17_b fl a1 (Gs_takeIn_L17 fl a1 n) y2 y3 S4 = some (z5, S6) := hf
      unfold Gs_takeIn_L17_b at hf
      refine gm_iload C dX1_takeIn_17 3 rfl ?_
      refine gm_aload_n C dX1_takeIn_19 rfl 0 rfl ?_
      refine gm_geti C (Nat.le_of_ble_eq_true rfl) rfl kc_1 (k := 2) rfl (by decide) rfl wl_266 dX1_takeIn_20 ?_
      refine gm_icmp_ge C 66 dX1_takeIn_23 (by decide) (fun c7 => ?_) (fun c7 => ?_)
      · have hf := gm_it _ c7 hf
        cases hf
        exact gm_lvp [0, 2] rfl K
      · have hf := gm_if _ c7 hf
        refine gm_aload_n C dX1_takeIn_26 rfl 0 rfl ?_
        refine gm_getr (j := 1) (u := 89) C (Nat.le_of_ble_eq_true rfl) rfl kc_1 (k := 0) rfl (by decide) rfl rfl wl_263 dX1_takeIn_27 ?_
        refine gm_iload C dX1_takeIn_30 3 rfl ?_
        obtain ⟨h8, hf⟩ := gm_ck_s hf
        refine gm_iald C (Nat.le_of_ble_eq_true rfl) rfl rfl h8 dX1_takeIn_32 ?_
        refine gm_aload_n C dX1_takeIn_33 rfl 0 rfl ?_
        refine gm_getr (j := 2) (u := 90) C (Nat.le_of_ble_eq_true rfl) rfl kc_1 (k := 1) rfl (by decide) rfl rfl wl_265 dX1_takeIn_34 ?_
        obtain ⟨v9, ev9, hf⟩ := gm_bp1_s hf
        refine gm_callSi (As := [.int (S4.1 89 y3.toNatClampNeg), .ref (ad 90)]) C (Ru_sayYes_c l cf ad gm_tk_90 ev9) wy_Ru_sayYes wl_605 rfl ⟨(Nat.le_of_ble_eq_true rfl), (Nat.le_of_ble_eq_true rfl)⟩ rfl (Nat.le_of_ble_eq_true rfl) dX1_takeIn_37 ?_
        refine gm_iload_n C dX1_takeIn_40 rfl 1 rfl ?_
        obtain ⟨x10, S11, hx, hf⟩ := gm_bp2_s hf
        have key : gm_G p l e { frames := 3, cells := 0, slots := 0, locals := 58 } s m args below meth c (MQ below (gm_Q cf ad gm_sC 106 none S') args s 0 0 (gm_A ad 106)) cf ad gm_sC 106 5 S11 60 [(0, .ref (ad 88)), (2, .int a1), (3, .int x10), (4, .int y3)] [] := by
          obtain ⟨x12, ex12, hf⟩ := gm_lt_s hf
          refine gm_iinc (v := x12) (lv' := [(4, .int x12), (0, .ref (ad 88)), (2, .int a1), (3, .int x10)]) (j := 3) C dX1_takeIn_60 rfl (by rw [ex12]; rfl) (by decide) rfl ?_
          refine gm_goto C 17 dX1_takeIn_63 (by decide) ?_
          exact gm_lvp [1, 2, 3, 0] rfl (ih _ _ _ _ _ hf K)
        have hf := hx
        refine gm_icmp_ne C 60 dX1_takeIn_41 (by decide) (fun c13 => ?_) (fun c13 => ?_)
        · have hf := gm_if _ c13 hf
          cases hf
          exact gm_lvp [0, 1, 2, 3] rfl key
        · have hf := gm_it _ c13 hf
          refine gm_aload_n C dX1_takeIn_44 rfl 0 rfl ?_
          refine gm_getr (j := 1) (u := 89) C (Nat.le_of_ble_eq_true rfl) rfl kc_1 (k := 0) rfl (by decide) rfl rfl wl_263 dX1_takeIn_45 ?_
          refine gm_iload_n C dX1_takeIn_48 rfl 2 rfl ?_
          refine gm_aload_n C dX1_takeIn_49 rfl 0 rfl ?_
          refine gm_getr (j := 1) (u := 89) C (Nat.le_of_ble_eq_true rfl) rfl kc_1 (k := 0) rfl (by decide) rfl rfl wl_263 dX1_takeIn_50 ?_
          refine gm_iload C dX1_takeIn_53 3 rfl ?_
          obtain ⟨h14, hf⟩ := gm_ck_s hf
          refine gm_iald C (Nat.le_of_ble_eq_true rfl) rfl rfl h14 dX1_takeIn_55 ?_
          obtain ⟨h15, hf⟩ := gm_ck_s hf
          refine gm_iast C (Nat.le_of_ble_eq_true rfl) rfl rfl h15 dX1_takeIn_56 ?_
          obtain ⟨S16, eS16, hf⟩ := gm_lt_s hf
          refine gm_topm eS16 ?_
          obtain ⟨x17, ex17, hf⟩ := gm_lt_s hf
          refine gm_iinc (v := x17) (lv' := [(3, .int x17), (0, .ref (ad 88)), (2, .int a1), (4, .int y3)]) (j := 2) C dX1_takeIn_57 rfl (by rw [ex17]; rfl) (by decide) rfl ?_
          cases hf
          exact gm_lvp [1, 2, 0, 3] rfl key
  obtain ⟨z5, S6, hx, hf⟩ := gm_bp2_s hf
  refine gm_lvp [2, 4, 1, 0] rfl (L17 fl _ _ _ _ _ hx ?_)
  refine gm_aload_n C dX1_takeIn_66 rfl 0 rfl ?_
  refine gm_iload_n C dX1_takeIn_67 rfl 1 rfl ?_
  refine gm_puti C (Nat.le_of_ble_eq_true rfl) rfl kc_1 (k := 2) rfl (by decide) rfl rfl (kc_1.2.2.2.1 2 (by decide)) rfl rfl wl_266 dX1_takeIn_68 ?_
  obtain ⟨S18, eS18, hf⟩ := gm_lt_s hf
  refine gm_topm eS18 ?_
  refine gm_aload_n C dX1_takeIn_71 rfl 0 rfl ?_
  refine gm_dup C dX1_takeIn_72 rfl ?_
  refine gm_geti C (Nat.le_of_ble_eq_true rfl) rfl kc_1 (k := 3) rfl (by decide) rfl wl_268 dX1_takeIn_73 ?_
  refine gm_iconst (v := 1) C dX1_takeIn_76 (by decide) ?_
  refine gm_iadd C dX1_takeIn_77 ?_
  refine gm_puti C (Nat.le_of_ble_eq_true rfl) rfl kc_1 (k := 3) rfl (by decide) rfl rfl (kc_1.2.2.2.1 3 (by decide)) rfl rfl wl_268 dX1_takeIn_78 ?_
  obtain ⟨S19, eS19, hf⟩ := gm_lt_s hf
  refine gm_topm eS19 ?_
  refine gm_aload_n C dX1_takeIn_81 rfl 0 rfl ?_
  refine gm_iconst (v := 0) C dX1_takeIn_82 (by decide) ?_
  refine gm_puti C (Nat.le_of_ble_eq_true rfl) rfl kc_1 (k := 6) rfl (by decide) rfl rfl (kc_1.2.2.2.1 6 (by decide)) rfl rfl wl_272 dX1_takeIn_83 ?_
  obtain ⟨S20, eS20, hf⟩ := gm_lt_s hf
  refine gm_topm eS20 ?_
  exact gm_vret C hr dX1_takeIn_86 hf
