theorem dX11_isRoll_0 : decode cX11_isRoll 0 = .ok (.iload_n 1, 1) := by decide +kernel
theorem dX11_isRoll_1 : decode cX11_isRoll 1 = .ok (.i2l, 1) := by decide +kernel
theorem dX11_isRoll_2 : decode cX11_isRoll 2 = .ok (.lconst 0, 1) := by decide +kernel
theorem dX11_isRoll_3 : decode cX11_isRoll 3 = .ok (.aload_n 0, 1) := by decide +kernel
theorem dX11_isRoll_4 : decode cX11_isRoll 4 = .ok (.getfield 73, 3) := by decide +kernel
theorem dX11_isRoll_7 : decode cX11_isRoll 7 = .ok (.iconst 1, 1) := by decide +kernel
theorem dX11_isRoll_8 : decode cX11_isRoll 8 = .ok (.isub, 1) := by decide +kernel
theorem dX11_isRoll_9 : decode cX11_isRoll 9 = .ok (.i2l, 1) := by decide +kernel
theorem dX11_isRoll_10 : decode cX11_isRoll 10 = .ok (.invokestatic 69, 3) := by decide +kernel
theorem dX11_isRoll_13 : decode cX11_isRoll 13 = .ok (.ireturn, 1) := by decide +kernel
def Mo_isRoll (a0 : Int32) (S : gm_M) : Option Int32 :=
  gm_bp1 (Mo_in ((a0 : Int32).toInt64) 0 (((S.1 0 3) - 1 : Int32).toInt64)) fun v1 =>
  if vp_nar .boolean v1 = v1 then (some v1) else none
set_option maxHeartbeats 4000000 in
set_option maxRecDepth 100000 in
theorem Mo_isRoll_c (l : Launch) (cf : gm_C) (ad : Nat → Nat)    {a0 : Int32} {S : gm_M} {r : Int32}  (hf : Mo_isRoll a0 S = some r) : gm_Met l yX11_isRoll cX11_isRoll 2 (some .boolean) 1 25 cf ad gm_sM 17 [.ref (ad 0), .int a0] S (some (.int r)) S := by
  refine gm_met (by decide +kernel) (Nat.le_of_ble_eq_true rfl) ?_
  intro p e s m args below meth c C hr
  have C : gm_F p s m args meth c cf ad 17 cX11_isRoll 2 RX11 := C
  refine gm_lve (lv' := [(0, .ref (ad 0)), (1, .int a0)]) rfl ?_
  unfold Mo_isRoll at hf
  refine gm_iload_n C dX11_isRoll_0 rfl 1 rfl ?_
  refine gm_i2l C dX11_isRoll_1 rfl ?_
  refine gm_lconst (v := 0) C dX11_isRoll_2 (by decide) ?_
  refine gm_aload_n C dX11_isRoll_3 rfl 0 rfl ?_
  refine gm_geti C (Nat.le_of_ble_eq_true rfl) rfl kc_11 (k := 3) rfl (by decide) rfl wl_843 dX11_isRoll_4 ?_
  refine gm_iconst (v := 1) C dX11_isRoll_7 (by decide) ?_
  refine gm_isub C dX11_isRoll_8 ?_
  refine gm_i2l C dX11_isRoll_9 rfl ?_
  obtain ⟨v1, ev1, hf⟩ := gm_bp1_s hf
  refine gm_callSi (As := [.long ((a0 : Int32).toInt64), .long 0, .long (((S.1 0 3) - 1 : Int32).toInt64)]) C (Mo_in_c l cf ad ev1 (S := S)) wy_Mo_in wl_957 rfl ⟨(Nat.le_of_ble_eq_true rfl), (Nat.le_of_ble_eq_true rfl)⟩ rfl (Nat.le_of_ble_eq_true rfl) dX11_isRoll_10 ?_
  obtain ⟨h2, hf⟩ := gm_in _ hf
  exact gm_iretK C hr (gm_zb h2) dX11_isRoll_13 hf
theorem dX11_who_0 : decode cX11_who 0 = .ok (.aload_n 0, 1) := by decide +kernel
theorem dX11_who_1 : decode cX11_who 1 = .ok (.iload_n 1, 1) := by decide +kernel
theorem dX11_who_2 : decode cX11_who 2 = .ok (.invokevirtual 227, 3) := by decide +kernel
theorem dX11_who_5 : decode cX11_who 5 = .ok (.istore_n 2, 1) := by decide +kernel
theorem dX11_who_6 : decode cX11_who 6 = .ok (.iload_n 2, 1) := by decide +kernel
theorem dX11_who_7 : decode cX11_who 7 = .ok (.ifCond .lt 10, 3) := by decide +kernel
theorem dX11_who_10 : decode cX11_who 10 = .ok (.aload_n 0, 1) := by decide +kernel
theorem dX11_who_11 : decode cX11_who 11 = .ok (.getfield 76, 3) := by decide +kernel
theorem dX11_who_14 : decode cX11_who 14 = .ok (.ifCond .ne 7, 3) := by decide +kernel
theorem dX11_who_17 : decode cX11_who 17 = .ok (.iconst (-1), 1) := by decide +kernel
theorem dX11_who_18 : decode cX11_who 18 = .ok (.goto 9, 3) := by decide +kernel
theorem dX11_who_21 : decode cX11_who 21 = .ok (.iload_n 2, 1) := by decide +kernel
theorem dX11_who_22 : decode cX11_who 22 = .ok (.aload_n 0, 1) := by decide +kernel
theorem dX11_who_23 : decode cX11_who 23 = .ok (.getfield 76, 3) := by decide +kernel
theorem dX11_who_26 : decode cX11_who 26 = .ok (.irem, 1) := by decide +kernel
theorem dX11_who_27 : decode cX11_who 27 = .ok (.ireturn, 1) := by decide +kernel
def Mo_who (fl : Nat) (a0 : Int32) (S : gm_M) : Option Int32 :=
  gm_bp1 (Mo_soon fl a0 S) fun v1 =>
  if v1 < 0 then (
    some ((-1))
  ) else (
    if S.1 0 4 = 0 then (
      some ((-1))
    ) else (
      if S.1 0 4 = 0 then none else
      some (gm_rm v1 (S.1 0 4))
    )
  )
set_option maxHeartbeats 4000000 in
set_option maxRecDepth 100000 in
theorem Mo_who_c (l : Launch) (cf : gm_C) (ad : Nat → Nat) {fl : Nat}   {a0 : Int32} {S : gm_M} {r : Int32}  (hf : Mo_who fl a0 S = some r) : gm_Met l yX11_who cX11_who 3 (some .int) 7 163 cf ad gm_sM 17 [.ref (ad 0), .int a0] S (some (.int r)) S := by
  refine gm_met (by decide +kernel) (Nat.le_of_ble_eq_true rfl) ?_
  intro p e s m args below meth c C hr
  have C : gm_F p s m args meth c cf ad 17 cX11_who 3 RX11 := C
  refine gm_lve (lv' := [(0, .ref (ad 0)), (1, .int a0)]) rfl ?_
  unfold Mo_who at hf
  refine gm_aload_n C dX11_who_0 rfl 0 rfl ?_
  refine gm_iload_n C dX11_who_1 rfl 1 rfl ?_
  obtain ⟨v1, ev1, hf⟩ := gm_bp1_s hf
  refine gm_callVi (As := [.int a0]) C (Mo_soon_c l cf ad ev1) (Nat.le_of_ble_eq_true rfl) rfl kc_11 wy_Mo_soon rfl wl_1082 rfl ⟨(Nat.le_of_ble_eq_true rfl), (Nat.le_of_ble_eq_true rfl)⟩ rfl (Nat.le_of_ble_eq_true rfl) dX11_who_2 ?_
  refine gm_istore_n (lv' := [(2, .int v1), (0, .ref (ad 0)), (1, .int a0)]) C dX11_who_5 rfl (by decide) rfl ?_
  refine gm_iload_n C dX11_who_6 rfl 0 rfl ?_
  refine gm_if_lt C 17 dX11_who_7 (by decide) (fun c2 => ?_) (fun c2 => ?_)
  · have hf := gm_it _ c2 hf
    refine gm_iconst (v := (-1)) C dX11_who_17 (by decide) ?_
    refine gm_goto C 27 dX11_who_18 (by decide) ?_
    exact gm_iretK C hr rfl dX11_who_27 hf
  · have hf := gm_if _ c2 hf
    refine gm_aload_n C dX11_who_10 rfl 1 rfl ?_
    refine gm_geti C (Nat.le_of_ble_eq_true rfl) rfl kc_11 (k := 4) rfl (by decide) rfl wl_844 dX11_who_11 ?_
    refine gm_if_ne C 21 dX11_who_14 (by decide) (fun c3 => ?_) (fun c3 => ?_)
    · have hf := gm_if _ c3 hf
      refine gm_iload_n C dX11_who_21 rfl 0 rfl ?_
      refine gm_aload_n C dX11_who_22 rfl 1 rfl ?_
      refine gm_geti C (Nat.le_of_ble_eq_true rfl) rfl kc_11 (k := 4) rfl (by decide) rfl wl_844 dX11_who_23 ?_
      obtain ⟨h4, hf⟩ := gm_iz _ hf
      refine gm_irem C dX11_who_26 h4 ?_
      exact gm_iretK C hr rfl dX11_who_27 hf
    · have hf := gm_it _ c3 hf
      refine gm_iconst (v := (-1)) C dX11_who_17 (by decide) ?_
      refine gm_goto C 27 dX11_who_18 (by decide) ?_
      exact gm_iretK C hr rfl dX11_who_27 hf
theorem dX11_luckyLeft_0 : decode cX11_luckyLeft 0 = .ok (.iconst 0, 1) := by decide +kernel
theorem dX11_luckyLeft_1 : decode cX11_luckyLeft 1 = .ok (.istore_n 2, 1) := by decide +kernel
theorem dX11_luckyLeft_2 : decode cX11_luckyLeft 2 = .ok (.iconst 0, 1) := by decide +kernel
theorem dX11_luckyLeft_3 : decode cX11_luckyLeft 3 = .ok (.istore_n 3, 1) := by decide +kernel
theorem dX11_luckyLeft_4 : decode cX11_luckyLeft 4 = .ok (.iload_n 3, 1) := by decide +kernel
theorem dX11_luckyLeft_5 : decode cX11_luckyLeft 5 = .ok (.aload_n 0, 1) := by decide +kernel
theorem dX11_luckyLeft_6 : decode cX11_luckyLeft 6 = .ok (.getfield 13, 3) := by decide +kernel
theorem dX11_luckyLeft_9 : decode cX11_luckyLeft 9 = .ok (.bipush 17, 2) := by decide +kernel
theorem dX11_luckyLeft_11 : decode cX11_luckyLeft 11 = .ok (.iload_n 1, 1) := by decide +kernel
theorem dX11_luckyLeft_12 : decode cX11_luckyLeft 12 = .ok (.iadd, 1) := by decide +kernel
theorem dX11_luckyLeft_13 : decode cX11_luckyLeft 13 = .ok (.iaload, 1) := by decide +kernel
theorem dX11_luckyLeft_14 : decode cX11_luckyLeft 14 = .ok (.if_icmp .ge 42, 3) := by decide +kernel
theorem dX11_luckyLeft_17 : decode cX11_luckyLeft 17 = .ok (.iload_n 2, 1) := by decide +kernel
theorem dX11_luckyLeft_18 : decode cX11_luckyLeft 18 = .ok (.aload_n 0, 1) := by decide +kernel
theorem dX11_luckyLeft_19 : decode cX11_luckyLeft 19 = .ok (.aload_n 0, 1) := by decide +kernel
theorem dX11_luckyLeft_20 : decode cX11_luckyLeft 20 = .ok (.getfield 13, 3) := by decide +kernel
theorem dX11_luckyLeft_23 : decode cX11_luckyLeft 23 = .ok (.bipush 13, 2) := by decide +kernel
theorem dX11_luckyLeft_25 : decode cX11_luckyLeft 25 = .ok (.iload_n 1, 1) := by decide +kernel
theorem dX11_luckyLeft_26 : decode cX11_luckyLeft 26 = .ok (.iadd, 1) := by decide +kernel
theorem dX11_luckyLeft_27 : decode cX11_luckyLeft 27 = .ok (.iaload, 1) := by decide +kernel
theorem dX11_luckyLeft_28 : decode cX11_luckyLeft 28 = .ok (.iload_n 3, 1) := by decide +kernel
theorem dX11_luckyLeft_29 : decode cX11_luckyLeft 29 = .ok (.iadd, 1) := by decide +kernel
theorem dX11_luckyLeft_30 : decode cX11_luckyLeft 30 = .ok (.aload_n 0, 1) := by decide +kernel
theorem dX11_luckyLeft_31 : decode cX11_luckyLeft 31 = .ok (.getfield 79, 3) := by decide +kernel
theorem dX11_luckyLeft_34 : decode cX11_luckyLeft 34 = .ok (.iconst 1, 1) := by decide +kernel
theorem dX11_luckyLeft_35 : decode cX11_luckyLeft 35 = .ok (.iadd, 1) := by decide +kernel
theorem dX11_luckyLeft_36 : decode cX11_luckyLeft 36 = .ok (.irem, 1) := by decide +kernel
theorem dX11_luckyLeft_37 : decode cX11_luckyLeft 37 = .ok (.invokevirtual 224, 3) := by decide +kernel
theorem dX11_luckyLeft_40 : decode cX11_luckyLeft 40 = .ok (.ifCond .eq 7, 3) := by decide +kernel
theorem dX11_luckyLeft_43 : decode cX11_luckyLeft 43 = .ok (.iconst 1, 1) := by decide +kernel
theorem dX11_luckyLeft_44 : decode cX11_luckyLeft 44 = .ok (.goto 4, 3) := by decide +kernel
theorem dX11_luckyLeft_47 : decode cX11_luckyLeft 47 = .ok (.iconst 0, 1) := by decide +kernel
theorem dX11_luckyLeft_48 : decode cX11_luckyLeft 48 = .ok (.iadd, 1) := by decide +kernel
theorem dX11_luckyLeft_49 : decode cX11_luckyLeft 49 = .ok (.istore_n 2, 1) := by decide +kernel
theorem dX11_luckyLeft_50 : decode cX11_luckyLeft 50 = .ok (.iinc 3 1, 3) := by decide +kernel
theorem dX11_luckyLeft_53 : decode cX11_luckyLeft 53 = .ok (.goto (-49), 3) := by decide +kernel
theorem dX11_luckyLeft_56 : decode cX11_luckyLeft 56 = .ok (.iload_n 2, 1) := by decide +kernel
theorem dX11_luckyLeft_57 : decode cX11_luckyLeft 57 = .ok (.ireturn, 1) := by decide +kernel
def Mo_luckyLeft_L4_b (fl : Nat) (a0 : Int32) (S : gm_M) (rec : Int32 → Int32 → Option (Int32)) (y1 : Int32) (y2 : Int32) : Option (Int32) :=
  gm_ck (17 + a0) 42 <|
  if S.1 2 (17 + a0).toNatClampNeg ≤ y2 then (
    some (y1)
  ) else (
    gm_ck (13 + a0) 42 <|
    if (S.1 0 1) + 1 = 0 then none else
    gm_bp1 (Mo_isLucky fl (gm_rm ((S.1 2 (13 + a0).toNatClampNeg) + y2) ((S.1 0 1) + 1)) S) fun v8 =>
    gm_bp1 (show Option (Int32) from
      if v8 = 0 then (
        some (0)
      ) else (
        some (1)
      )
    ) fun x9 =>
    gm_lt (α := Int32) (y1 + x9) fun x10 =>
    gm_lt (α := Int32) (y2 + 1) fun x11 =>
    rec x10 x11
  )
def Mo_luckyLeft_L4 (fl : Nat) (a0 : Int32) (S : gm_M) : Nat → Int32 → Int32 → Option (Int32)
  | 0 => fun _ _ => none
  | n + 1 => Mo_luckyLeft_L4_b fl a0 S (Mo_luckyLeft_L4 fl a0 S n)
def Mo_luckyLeft (fl : Nat) (a0 : Int32) (S : gm_M) : Option Int32 :=
  gm_bp1 (Mo_luckyLeft_L4 fl a0 S fl 0 0) fun z3 =>
  some (z3)
set_option maxHeartbeats 4000000 in
set_option maxRecDepth 100000 in
theorem Mo_luckyLeft_c (l : Launch) (cf : gm_C) (ad : Nat → Nat) {fl : Nat}   {a0 : Int32} {S : gm_M} {r : Int32}  (hf : Mo_luckyLeft fl a0 S = some r) : gm_Met l yX11_luckyLeft cX11_luckyLeft 4 (some .int) 6 141 cf ad gm_sM 17 [.ref (ad 0), .int a0] S (some (.int r)) S := by
  refine gm_met (by decide +kernel) (Nat.le_of_ble_eq_true rfl) ?_
  intro p e s m args below meth c C hr
  have C : gm_F p s m args meth c cf ad 17 cX11_luckyLeft 4 RX11 := C
  refine gm_lve (lv' := [(0, .ref (ad 0)), (1, .int a0)]) rfl ?_
  unfold Mo_luckyLeft at hf
  refine gm_iconst (v := 0) C dX11_luckyLeft_0 (by decide) ?_
  refine gm_istore_n (lv' := [(2, .int 0), (0, .ref (ad 0)), (1, .int a0)]) C dX11_luckyLeft_1 rfl (by decide) rfl ?_
  refine gm_iconst (v := 0) C dX11_luckyLeft_2 (by decide) ?_
  refine gm_istore_n (lv' := [(3, .int 0), (2, .int 0), (0, .ref (ad 0)), (1, .int a0)]) C dX11_luckyLeft_3 rfl (by decide) rfl ?_
  have L4 : ∀ (n : Nat) (y1 : Int32) (y2 : Int32) (z3 : Int32), Mo_luckyLeft_L4 fl a0 S n y1 y2 = some (z3) → gm_G p l e { frames := 6, cells := 0, slots := 0, locals := 141 } s m args below meth c (MQ below (gm_Q cf ad gm_sM 17 (some (.int r)) S) args s 0 0 (gm_A ad 17)) cf ad gm_sM 17 4 S 56 [(2, .int z3)] [] → gm_G p l e { frames := 6, cells := 0, slots := 0, locals := 141 } s m args below meth c (MQ below (gm_Q cf ad gm_sM 17 (some (.int r)) S) args s 0 0 (gm_A ad 17)) cf ad gm_sM 17 4 S 4 [(0, .ref (ad 0)), (1, .int a0), (2, .int y1), (3, .int y2)] [] := by
    intro n
    induction n with
    | zero => intro y1 y2 z3 hf K; cases (show (none : Option _) = some _ from hf)
    | succ n ih =>
      intro y1 y2 z3 hf K
      have hf : Mo_luckyLeft_L4_b fl a0 S (Mo_luckyLeft_L4 fl a0 S n) y1 y2 = some (z3) := hf
      unfold Mo_luckyLeft_L4_b at hf
      refine gm_iload_n C dX11_luckyLeft_4 rfl 3 rfl ?_
      refine gm_aload_n C dX11_luckyLeft_5 rfl 0 rfl ?_
      refine gm_getr (j := 2) (u := 2) C (Nat.le_of_ble_eq_true rfl) rfl kc_11 (k := 6) rfl (by decide) rfl rfl wl_846 dX11_luckyLeft_6 ?_
      refine gm_bipush (v := 17) C dX11_luckyLeft_9 (by decide) ?_
      refine gm_iload_n C dX11_luckyLeft_11 rfl 1 rfl ?_
      refine gm_iadd C dX11_luckyLeft_12 ?_
      obtain ⟨h4, hf⟩ := gm_ck_s hf
      refine gm_iald C (Nat.le_of_ble_eq_true rfl) rfl rfl h4 dX11_luckyLeft_13 ?_
      refine gm_icmp_ge C 56 dX11_luckyLeft_14 (by decide) (fun c5 => ?_) (fun c5 => ?_)
      · have hf := gm_it _ c5 hf
        cases hf
        exact gm_lvp [2] rfl K
      · have hf := gm_if _ c5 hf
        refine gm_iload_n C dX11_luckyLeft_17 rfl 2 rfl ?_
        refine gm_aload_n C dX11_luckyLeft_18 rfl 0 rfl ?_
        refine gm_aload_n C dX11_luckyLeft_19 rfl 0 rfl ?_
        refine gm_getr (j := 2) (u := 2) C (Nat.le_of_ble_eq_true rfl) rfl kc_11 (k := 6) rfl (by decide) rfl rfl wl_846 dX11_luckyLeft_20 ?_
        refine gm_bipush (v := 13) C dX11_luckyLeft_23 (by decide) ?_
        refine gm_iload_n C dX11_luckyLeft_25 rfl 1 rfl ?_
        refine gm_iadd C dX11_luckyLeft_26 ?_
        obtain ⟨h6, hf⟩ := gm_ck_s hf
        refine gm_iald C (Nat.le_of_ble_eq_true rfl) rfl rfl h6 dX11_luckyLeft_27 ?_
        refine gm_iload_n C dX11_luckyLeft_28 rfl 3 rfl ?_
        refine gm_iadd C dX11_luckyLeft_29 ?_
        refine gm_aload_n C dX11_luckyLeft_30 rfl 0 rfl ?_
        refine gm_geti C (Nat.le_of_ble_eq_true rfl) rfl kc_11 (k := 1) rfl (by decide) rfl wl_841 dX11_luckyLeft_31 ?_
        refine gm_iconst (v := 1) C dX11_luckyLeft_34 (by decide) ?_
        refine gm_iadd C dX11_luckyLeft_35 ?_
        obtain ⟨h7, hf⟩ := gm_iz _ hf
        refine gm_irem C dX11_luckyLeft_36 h7 ?_
        obtain ⟨v8, ev8, hf⟩ := gm_bp1_s hf
        refine gm_callVi (As := [.int (gm_rm ((S.1 2 (13 + a0).toNatClampNeg) + y2) ((S.1 0 1) + 1))]) C (Mo_isLucky_c l cf ad ev8) (Nat.le_of_ble_eq_true rfl) rfl kc_11 wy_Mo_isLucky rfl wl_1086 rfl ⟨(Nat.le_of_ble_eq_true rfl), (Nat.le_of_ble_eq_true rfl)⟩ rfl (Nat.le_of_ble_eq_true rfl) dX11_luckyLeft_37 ?_
        obtain ⟨x9, hx, hf⟩ := gm_bp1_s hf
        have key : gm_G p l e { frames := 6, cells := 0, slots := 0, locals := 141 } s m args below meth c (MQ below (gm_Q cf ad gm_sM 17 (some (.int r)) S) args s 0 0 (gm_A ad 17)) cf ad gm_sM 17 4 S 48 [(0, .ref (ad 0)), (1, .int a0), (3, .int y2)] [.int x9, .int y1] := by
          refine gm_iadd C dX11_luckyLeft_48 ?_
          obtain ⟨x10, ex10, hf⟩ := gm_lt_s hf
          refine gm_topi ex10 ?_
          refine gm_istore_n (lv' := [(2, .int x10), (0, .ref (ad 0)), (1, .int a0), (3, .int y2)]) C dX11_luckyLeft_49 rfl (by decide) rfl ?_
          obtain ⟨x11, ex11, hf⟩ := gm_lt_s hf
          refine gm_iinc (v := x11) (lv' := [(3, .int x11), (2, .int x10), (0, .ref (ad 0)), (1, .int a0)]) (j := 3) C dX11_luckyLeft_50 rfl (by rw [ex11]; rfl) (by decide) rfl ?_
          refine gm_goto C 4 dX11_luckyLeft_53 (by decide) ?_
          exact gm_lvp [2, 3, 1, 0] rfl (ih _ _ _ hf K)
        have hf := hx
        refine gm_if_eq C 47 dX11_luckyLeft_40 (by decide) (fun c12 => ?_) (fun c12 => ?_)
        · have hf := gm_it _ c12 hf
          refine gm_iconst (v := 0) C dX11_luckyLeft_47 (by decide) ?_
          cases hf
          exact gm_lvp [0, 1, 3] rfl key
        · have hf := gm_if _ c12 hf
          refine gm_iconst (v := 1) C dX11_luckyLeft_43 (by decide) ?_
          refine gm_goto C 48 dX11_luckyLeft_44 (by decide) ?_
          cases hf
          exact gm_lvp [0, 1, 3] rfl key
  obtain ⟨z3, hx, hf⟩ := gm_bp1_s hf
  refine gm_lvp [2, 3, 1, 0] rfl (L4 fl _ _ _ hx ?_)
  refine gm_iload_n C dX11_luckyLeft_56 rfl 0 rfl ?_
  exact gm_iretK C hr rfl dX11_luckyLeft_57 hf
theorem dX11_part_0 : decode cX11_part 0 = .ok (.aload_n 0, 1) := by decide +kernel
theorem dX11_part_1 : decode cX11_part 1 = .ok (.iload_n 1, 1) := by decide +kernel
theorem dX11_part_2 : decode cX11_part 2 = .ok (.invokevirtual 230, 3) := by decide +kernel
theorem dX11_part_5 : decode cX11_part 5 = .ok (.istore_n 3, 1) := by decide +kernel
theorem dX11_part_6 : decode cX11_part 6 = .ok (.aload_n 0, 1) := by decide +kernel
theorem dX11_part_7 : decode cX11_part 7 = .ok (.getfield 13, 3) := by decide +kernel
theorem dX11_part_10 : decode cX11_part 10 = .ok (.bipush 17, 2) := by decide +kernel
theorem dX11_part_12 : decode cX11_part 12 = .ok (.iload_n 1, 1) := by decide +kernel
theorem dX11_part_13 : decode cX11_part 13 = .ok (.iadd, 1) := by decide +kernel
theorem dX11_part_14 : decode cX11_part 14 = .ok (.iaload, 1) := by decide +kernel
theorem dX11_part_15 : decode cX11_part 15 = .ok (.istore 4, 2) := by decide +kernel
theorem dX11_part_17 : decode cX11_part 17 = .ok (.iload_n 3, 1) := by decide +kernel
theorem dX11_part_18 : decode cX11_part 18 = .ok (.ifCond .ne 13, 3) := by decide +kernel
theorem dX11_part_21 : decode cX11_part 21 = .ok (.iload_n 2, 1) := by decide +kernel
theorem dX11_part_22 : decode cX11_part 22 = .ok (.ifCond .eq 7, 3) := by decide +kernel
theorem dX11_part_25 : decode cX11_part 25 = .ok (.iconst 0, 1) := by decide +kernel
theorem dX11_part_26 : decode cX11_part 26 = .ok (.goto 4, 3) := by decide +kernel
theorem dX11_part_29 : decode cX11_part 29 = .ok (.iconst 1, 1) := by decide +kernel
theorem dX11_part_30 : decode cX11_part 30 = .ok (.ireturn, 1) := by decide +kernel
theorem dX11_part_31 : decode cX11_part 31 = .ok (.iload_n 3, 1) := by decide +kernel
theorem dX11_part_32 : decode cX11_part 32 = .ok (.istore 5, 2) := by decide +kernel
theorem dX11_part_34 : decode cX11_part 34 = .ok (.iload 4, 2) := by decide +kernel
theorem dX11_part_36 : decode cX11_part 36 = .ok (.istore 6, 2) := by decide +kernel
theorem dX11_part_38 : decode cX11_part 38 = .ok (.iload 6, 2) := by decide +kernel
theorem dX11_part_40 : decode cX11_part 40 = .ok (.ifCond .le 21, 3) := by decide +kernel
theorem dX11_part_43 : decode cX11_part 43 = .ok (.iload 5, 2) := by decide +kernel
theorem dX11_part_45 : decode cX11_part 45 = .ok (.iload 6, 2) := by decide +kernel
theorem dX11_part_47 : decode cX11_part 47 = .ok (.irem, 1) := by decide +kernel
theorem dX11_part_48 : decode cX11_part 48 = .ok (.istore 7, 2) := by decide +kernel
theorem dX11_part_50 : decode cX11_part 50 = .ok (.iload 6, 2) := by decide +kernel
theorem dX11_part_52 : decode cX11_part 52 = .ok (.istore 5, 2) := by decide +kernel
theorem dX11_part_54 : decode cX11_part 54 = .ok (.iload 7, 2) := by decide +kernel
theorem dX11_part_56 : decode cX11_part 56 = .ok (.istore 6, 2) := by decide +kernel
theorem dX11_part_58 : decode cX11_part 58 = .ok (.goto (-20), 3) := by decide +kernel
theorem dX11_part_61 : decode cX11_part 61 = .ok (.iload_n 2, 1) := by decide +kernel
theorem dX11_part_62 : decode cX11_part 62 = .ok (.ifCond .eq 10, 3) := by decide +kernel
theorem dX11_part_65 : decode cX11_part 65 = .ok (.iload_n 3, 1) := by decide +kernel
theorem dX11_part_66 : decode cX11_part 66 = .ok (.iload 5, 2) := by decide +kernel
theorem dX11_part_68 : decode cX11_part 68 = .ok (.idiv, 1) := by decide +kernel
theorem dX11_part_69 : decode cX11_part 69 = .ok (.goto 8, 3) := by decide +kernel
theorem dX11_part_72 : decode cX11_part 72 = .ok (.iload 4, 2) := by decide +kernel
theorem dX11_part_74 : decode cX11_part 74 = .ok (.iload 5, 2) := by decide +kernel
theorem dX11_part_76 : decode cX11_part 76 = .ok (.idiv, 1) := by decide +kernel
theorem dX11_part_77 : decode cX11_part 77 = .ok (.ireturn, 1) := by decide +kernel
def Mo_part_L38_b  (rec : Int32 → Int32 → Option (Int32)) (y5 : Int32) (y6 : Int32) : Option (Int32) :=
  if y6 ≤ 0 then (
    some (y5)
  ) else (
    if y6 = 0 then none else
    gm_lt (α := Int32) (gm_rm y5 y6) fun x10 =>
    rec y6 x10
  )
def Mo_part_L38  : Nat → Int32 → Int32 → Option (Int32)
  | 0 => fun _ _ => none
  | n + 1 => Mo_part_L38_b  (Mo_part_L38  n)
def Mo_part (fl : Nat) (a0 : Int32) (a1 : Int32) (S : gm_M) : Option Int32 :=
  gm_bp1 (Mo_luckyLeft fl a0 S) fun v1 =>
  gm_ck (17 + a0) 42 <|
  gm_lt (α := Int32) (S.1 2 (17 + a0).toNatClampNeg) fun x3 =>
  if v1 = 0 then (
    if a1 = 0 then (
      some (1)
    ) else (
      some (0)
    )
  ) else (
    gm_bp1 (Mo_part_L38  fl v1 x3) fun z7 =>
    if a1 = 0 then (
      if z7 = 0 then none else
      some (x3 / z7)
    ) else (
      if z7 = 0 then none else
      some (v1 / z7)
    )
  )
set_option maxHeartbeats 4000000 in
set_option maxRecDepth 100000 in
theorem Mo_part_c (l : Launch) (cf : gm_C) (ad : Nat → Nat) {fl : Nat}   {a0 : Int32} {a1 : Int32} {S : gm_M} {r : Int32}  (hf : Mo_part fl a0 a1 S = some r) : gm_Met l yX11_part cX11_part 8 (some .int) 7 164 cf ad gm_sM 17 [.ref (ad 0), .int a0, .int a1] S (some (.int r)) S := by
  refine gm_met (by decide +kernel) (Nat.le_of_ble_eq_true rfl) ?_
  intro p e s m args below meth c C hr
  have C : gm_F p s m args meth c cf ad 17 cX11_part 8 RX11 := C
  refine gm_lve (lv' := [(0, .ref (ad 0)), (1, .int a0), (2, .int a1)]) rfl ?_
  unfold Mo_part at hf
  refine gm_aload_n C dX11_part_0 rfl 0 rfl ?_
  refine gm_iload_n C dX11_part_1 rfl 1 rfl ?_
  obtain ⟨v1, ev1, hf⟩ := gm_bp1_s hf
  refine gm_callVi (As := [.int a0]) C (Mo_luckyLeft_c l cf ad ev1) (Nat.le_of_ble_eq_true rfl) rfl kc_11 wy_Mo_luckyLeft rfl wl_1151 rfl ⟨(Nat.le_of_ble_eq_true rfl), (Nat.le_of_ble_eq_true rfl)⟩ rfl (Nat.le_of_ble_eq_true rfl) dX11_part_2 ?_
  refine gm_istore_n (lv' := [(3, .int v1), (0, .ref (ad 0)), (1, .int a0), (2, .int a1)]) C dX11_part_5 rfl (by decide) rfl ?_
  refine gm_aload_n C dX11_part_6 rfl 1 rfl ?_
  refine gm_getr (j := 2) (u := 2) C (Nat.le_of_ble_eq_true rfl) rfl kc_11 (k := 6) rfl (by decide) rfl rfl wl_846 dX11_part_7 ?_
  refine gm_bipush (v := 17) C dX11_part_10 (by decide) ?_
  refine gm_iload_n C dX11_part_12 rfl 2 rfl ?_
  refine gm_iadd C dX11_part_13 ?_
  obtain ⟨h2, hf⟩ := gm_ck_s hf
  refine gm_iald C (Nat.le_of_ble_eq_true rfl) rfl rfl h2 dX11_part_14 ?_
  obtain ⟨x3, ex3, hf⟩ := gm_lt_s hf
  refine gm_topi ex3 ?_
  refine gm_istore (lv' := [(4, .int x3), (3, .int v1), (0, .ref (ad 0)), (1, .int a0), (2, .int a1)]) C dX11_part_15 (by decide) rfl ?_
  refine gm_iload_n C dX11_part_17 rfl 1 rfl ?_
  refine gm_if_ne C 31 dX11_part_18 (by decide) (fun c4 => ?_) (fun c4 => ?_)
  · have hf := gm_if _ c4 hf
    refine gm_iload_n C dX11_part_31 rfl 1 rfl ?_
    refine gm_istore (lv' := [(5, .int v1), (4, .int x3), (3, .int v1), (0, .ref (ad 0)), (1, .int a0), (2, .int a1)]) C dX11_part_32 (by decide) rfl ?_
    refine gm_iload C dX11_part_34 1 rfl ?_
    refine gm_istore (lv' := [(6, .int x3), (5, .int v1), (4, .int x3), (3, .int v1), (0, .ref (ad 0)), (1, .int a0), (2, .int a1)]) C dX11_part_36 (by decide) rfl ?_
    have L38 : ∀ (n : Nat) (y5 : Int32) (y6 : Int32) (z7 : Int32), Mo_part_L38  n y5 y6 = some (z7) → gm_G p l e { frames := 7, cells := 0, slots := 0, locals := 164 } s m args below meth c (MQ below (gm_Q cf ad gm_sM 17 (some (.int r)) S) args s 0 0 (gm_A ad 17)) cf ad gm_sM 17 8 S 61 [(2, .int a1), (3, .int v1), (4, .int x3), (5, .int z7)] [] → gm_G p l e { frames := 7, cells := 0, slots := 0, locals := 164 } s m args below meth c (MQ below (gm_Q cf ad gm_sM 17 (some (.int r)) S) args s 0 0 (gm_A ad 17)) cf ad gm_sM 17 8 S 38 [(2, .int a1), (3, .int v1), (4, .int x3), (5, .int y5), (6, .int y6)] [] := by
      intro n
      induction n with
      | zero => intro y5 y6 z7 hf K; cases (show (none : Option _) = some _ from hf)
      | succ n ih =>
        intro y5 y6 z7 hf K
        have hf : Mo_part_L38_b  (Mo_part_L38  n) y5 y6 = some (z7) := hf
        unfold Mo_part_L38_b at hf
        refine gm_iload C dX11_part_38 4 rfl ?_
        refine gm_if_le C 61 dX11_part_40 (by decide) (fun c8 => ?_) (fun c8 => ?_)
        · have hf := gm_it _ c8 hf
          cases hf
          exact gm_lvp [0, 1, 2, 3] rfl K
        · have hf := gm_if _ c8 hf
          refine gm_iload C dX11_part_43 3 rfl ?_
          refine gm_iload C dX11_part_45 4 rfl ?_
          obtain ⟨h9, hf⟩ := gm_iz _ hf
          refine gm_irem C dX11_part_47 h9 ?_
          obtain ⟨x10, ex10, hf⟩ := gm_lt_s hf
          refine gm_topi ex10 ?_
          refine gm_istore (lv' := [(7, .int x10), (2, .int a1), (3, .int v1), (4, .int x3), (5, .int y5), (6, .int y6)]) C dX11_part_48 (by decide) rfl ?_
          refine gm_iload C dX11_part_50 5 rfl ?_
          refine gm_istore (lv' := [(5, .int y6), (7, .int x10), (2, .int a1), (3, .int v1), (4, .int x3), (6, .int y6)]) C dX11_part_52 (by decide) rfl ?_
          refine gm_iload C dX11_part_54 1 rfl ?_
          refine gm_istore (lv' := [(6, .int x10), (5, .int y6), (7, .int x10), (2, .int a1), (3, .int v1), (4, .int x3)]) C dX11_part_56 (by decide) rfl ?_
          refine gm_goto C 38 dX11_part_58 (by decide) ?_
          exact gm_lvp [3, 4, 5, 1, 0] rfl (ih _ _ _ hf K)
    obtain ⟨z7, hx, hf⟩ := gm_bp1_s hf
    refine gm_lvp [6, 3, 2, 1, 0] rfl (L38 fl _ _ _ hx ?_)
    refine gm_iload_n C dX11_part_61 rfl 0 rfl ?_
    refine gm_if_eq C 72 dX11_part_62 (by decide) (fun c11 => ?_) (fun c11 => ?_)
    · have hf := gm_it _ c11 hf
      refine gm_iload C dX11_part_72 2 rfl ?_
      refine gm_iload C dX11_part_74 3 rfl ?_
      obtain ⟨h12, hf⟩ := gm_iz _ hf
      refine gm_idiv C dX11_part_76 h12 ?_
      exact gm_iretK C hr rfl dX11_part_77 hf
    · have hf := gm_if _ c11 hf
      refine gm_iload_n C dX11_part_65 rfl 1 rfl ?_
      refine gm_iload C dX11_part_66 3 rfl ?_
      obtain ⟨h13, hf⟩ := gm_iz _ hf
      refine gm_idiv C dX11_part_68 h13 ?_
      refine gm_goto C 77 dX11_part_69 (by decide) ?_
      exact gm_iretK C hr rfl dX11_part_77 hf
  · have hf := gm_it _ c4 hf
    refine gm_iload_n C dX11_part_21 rfl 4 rfl ?_
    refine gm_if_eq C 29 dX11_part_22 (by decide) (fun c14 => ?_) (fun c14 => ?_)
    · have hf := gm_it _ c14 hf
      refine gm_iconst (v := 1) C dX11_part_29 (by decide) ?_
      exact gm_iretK C hr rfl dX11_part_30 hf
    · have hf := gm_if _ c14 hf
      refine gm_iconst (v := 0) C dX11_part_25 (by decide) ?_
      refine gm_goto C 30 dX11_part_26 (by decide) ?_
      exact gm_iretK C hr rfl dX11_part_30 hf
theorem dX11_rollOf_0 : decode cX11_rollOf 0 = .ok (.aload_n 0, 1) := by decide +kernel
theorem dX11_rollOf_1 : decode cX11_rollOf 1 = .ok (.iload_n 1, 1) := by decide +kernel
theorem dX11_rollOf_2 : decode cX11_rollOf 2 = .ok (.invokevirtual 252, 3) := by decide +kernel
theorem dX11_rollOf_5 : decode cX11_rollOf 5 = .ok (.ifCond .ne 6, 3) := by decide +kernel
theorem dX11_rollOf_8 : decode cX11_rollOf 8 = .ok (.ldc 251, 2) := by decide +kernel
theorem dX11_rollOf_10 : decode cX11_rollOf 10 = .ok (.ireturn, 1) := by decide +kernel
theorem dX11_rollOf_11 : decode cX11_rollOf 11 = .ok (.iload_n 2, 1) := by decide +kernel
theorem dX11_rollOf_12 : decode cX11_rollOf 12 = .ok (.tableswitch 86 0 5 #[40, 50, 60, 66, 72, 79], 40) := by decide +kernel
theorem dX11_rollOf_52 : decode cX11_rollOf 52 = .ok (.aload_n 0, 1) := by decide +kernel
theorem dX11_rollOf_53 : decode cX11_rollOf 53 = .ok (.getfield 13, 3) := by decide +kernel
theorem dX11_rollOf_56 : decode cX11_rollOf 56 = .ok (.bipush 13, 2) := by decide +kernel
theorem dX11_rollOf_58 : decode cX11_rollOf 58 = .ok (.iload_n 1, 1) := by decide +kernel
theorem dX11_rollOf_59 : decode cX11_rollOf 59 = .ok (.iadd, 1) := by decide +kernel
theorem dX11_rollOf_60 : decode cX11_rollOf 60 = .ok (.iaload, 1) := by decide +kernel
theorem dX11_rollOf_61 : decode cX11_rollOf 61 = .ok (.ireturn, 1) := by decide +kernel
theorem dX11_rollOf_62 : decode cX11_rollOf 62 = .ok (.aload_n 0, 1) := by decide +kernel
theorem dX11_rollOf_63 : decode cX11_rollOf 63 = .ok (.getfield 13, 3) := by decide +kernel
theorem dX11_rollOf_66 : decode cX11_rollOf 66 = .ok (.bipush 17, 2) := by decide +kernel
theorem dX11_rollOf_68 : decode cX11_rollOf 68 = .ok (.iload_n 1, 1) := by decide +kernel
theorem dX11_rollOf_69 : decode cX11_rollOf 69 = .ok (.iadd, 1) := by decide +kernel
theorem dX11_rollOf_70 : decode cX11_rollOf 70 = .ok (.iaload, 1) := by decide +kernel
theorem dX11_rollOf_71 : decode cX11_rollOf 71 = .ok (.ireturn, 1) := by decide +kernel
theorem dX11_rollOf_72 : decode cX11_rollOf 72 = .ok (.aload_n 0, 1) := by decide +kernel
theorem dX11_rollOf_73 : decode cX11_rollOf 73 = .ok (.iload_n 1, 1) := by decide +kernel
theorem dX11_rollOf_74 : decode cX11_rollOf 74 = .ok (.invokevirtual 227, 3) := by decide +kernel
theorem dX11_rollOf_77 : decode cX11_rollOf 77 = .ok (.ireturn, 1) := by decide +kernel
theorem dX11_rollOf_78 : decode cX11_rollOf 78 = .ok (.aload_n 0, 1) := by decide +kernel
theorem dX11_rollOf_79 : decode cX11_rollOf 79 = .ok (.iload_n 1, 1) := by decide +kernel
theorem dX11_rollOf_80 : decode cX11_rollOf 80 = .ok (.invokevirtual 255, 3) := by decide +kernel
theorem dX11_rollOf_83 : decode cX11_rollOf 83 = .ok (.ireturn, 1) := by decide +kernel
theorem dX11_rollOf_84 : decode cX11_rollOf 84 = .ok (.aload_n 0, 1) := by decide +kernel
theorem dX11_rollOf_85 : decode cX11_rollOf 85 = .ok (.iload_n 1, 1) := by decide +kernel
theorem dX11_rollOf_86 : decode cX11_rollOf 86 = .ok (.iconst 1, 1) := by decide +kernel
theorem dX11_rollOf_87 : decode cX11_rollOf 87 = .ok (.invokevirtual 258, 3) := by decide +kernel
theorem dX11_rollOf_90 : decode cX11_rollOf 90 = .ok (.ireturn, 1) := by decide +kernel
theorem dX11_rollOf_91 : decode cX11_rollOf 91 = .ok (.aload_n 0, 1) := by decide +kernel
theorem dX11_rollOf_92 : decode cX11_rollOf 92 = .ok (.iload_n 1, 1) := by decide +kernel
theorem dX11_rollOf_93 : decode cX11_rollOf 93 = .ok (.iconst 0, 1) := by decide +kernel
theorem dX11_rollOf_94 : decode cX11_rollOf 94 = .ok (.invokevirtual 258, 3) := by decide +kernel
theorem dX11_rollOf_97 : decode cX11_rollOf 97 = .ok (.ireturn, 1) := by decide +kernel
theorem dX11_rollOf_98 : decode cX11_rollOf 98 = .ok (.ldc 96, 2) := by decide +kernel
theorem dX11_rollOf_100 : decode cX11_rollOf 100 = .ok (.ireturn, 1) := by decide +kernel
def Mo_rollOf (fl : Nat) (a0 : Int32) (a1 : Int32) (S : gm_M) : Option Int32 :=
  gm_bp1 (Mo_isRoll a0 S) fun v1 =>
  if v1 = 0 then (
    some ((-1000000001))
  ) else (
    if a1 = 0 then (
      gm_ck (13 + a0) 42 <|
      some (S.1 2 (13 + a0).toNatClampNeg)
    ) else (
    if a1 = 1 then (
      gm_ck (17 + a0) 42 <|
      some (S.1 2 (17 + a0).toNatClampNeg)
    ) else (
    if a1 = 2 then (
      gm_bp1 (Mo_soon fl a0 S) fun v8 =>
      some (v8)
    ) else (
    if a1 = 3 then (
      gm_bp1 (Mo_who fl a0 S) fun v10 =>
      some (v10)
    ) else (
    if a1 = 4 then (
      gm_bp1 (Mo_part fl a0 1 S) fun v12 =>
      some (v12)
    ) else (
    if a1 = 5 then (
      gm_bp1 (Mo_part fl a0 0 S) fun v14 =>
      some (v14)
    ) else (
      some ((-1000000002))
    ))))))
  )
set_option maxHeartbeats 4000000 in
set_option maxRecDepth 100000 in
theorem Mo_rollOf_c (l : Launch) (cf : gm_C) (ad : Nat → Nat) {fl : Nat}   {a0 : Int32} {a1 : Int32} {S : gm_M} {r : Int32}  (hf : Mo_rollOf fl a0 a1 S = some r) : gm_Met l yX11_rollOf cX11_rollOf 3 (some .int) 8 191 cf ad gm_sM 17 [.ref (ad 0), .int a0, .int a1] S (some (.int r)) S := by
  refine gm_met (by decide +kernel) (Nat.le_of_ble_eq_true rfl) ?_
  intro p e s m args below meth c C hr
  have C : gm_F p s m args meth c cf ad 17 cX11_rollOf 3 RX11 := C
  refine gm_lve (lv' := [(0, .ref (ad 0)), (1, .int a0), (2, .int a1)]) rfl ?_
  unfold Mo_rollOf at hf
  refine gm_aload_n C dX11_rollOf_0 rfl 0 rfl ?_
  refine gm_iload_n C dX11_rollOf_1 rfl 1 rfl ?_
  obtain ⟨v1, ev1, hf⟩ := gm_bp1_s hf
  refine gm_callVi (As := [.int a0]) C (Mo_isRoll_c l cf ad ev1) (Nat.le_of_ble_eq_true rfl) rfl kc_11 wy_Mo_isRoll rfl wl_1139 rfl ⟨(Nat.le_of_ble_eq_true rfl), (Nat.le_of_ble_eq_true rfl)⟩ rfl (Nat.le_of_ble_eq_true rfl) dX11_rollOf_2 ?_
  refine gm_if_ne C 11 dX11_rollOf_5 (by decide) (fun c2 => ?_) (fun c2 => ?_)
  · have hf := gm_if _ c2 hf
    refine gm_iload_n C dX11_rollOf_11 rfl 2 rfl ?_
    by_cases c3 : a1 = 0
    · have hf := gm_it _ c3 hf
      refine gm_tableIn C 52 dX11_rollOf_12 (by rw [c3]; decide) (by rw [c3]; decide) (by rw [c3]; rfl) (by decide) ?_
      refine gm_aload_n C dX11_rollOf_52 rfl 0 rfl ?_
      refine gm_getr (j := 2) (u := 2) C (Nat.le_of_ble_eq_true rfl) rfl kc_11 (k := 6) rfl (by decide) rfl rfl wl_846 dX11_rollOf_53 ?_
      refine gm_bipush (v := 13) C dX11_rollOf_56 (by decide) ?_
      refine gm_iload_n C dX11_rollOf_58 rfl 1 rfl ?_
      refine gm_iadd C dX11_rollOf_59 ?_
      obtain ⟨h4, hf⟩ := gm_ck_s hf
      refine gm_iald C (Nat.le_of_ble_eq_true rfl) rfl rfl h4 dX11_rollOf_60 ?_
      exact gm_iretK C hr rfl dX11_rollOf_61 hf
    · have hf := gm_if _ c3 hf
      by_cases c5 : a1 = 1
      · have hf := gm_it _ c5 hf
        refine gm_tableIn C 62 dX11_rollOf_12 (by rw [c5]; decide) (by rw [c5]; decide) (by rw [c5]; rfl) (by decide) ?_
        refine gm_aload_n C dX11_rollOf_62 rfl 0 rfl ?_
        refine gm_getr (j := 2) (u := 2) C (Nat.le_of_ble_eq_true rfl) rfl kc_11 (k := 6) rfl (by decide) rfl rfl wl_846 dX11_rollOf_63 ?_
        refine gm_bipush (v := 17) C dX11_rollOf_66 (by decide) ?_
        refine gm_iload_n C dX11_rollOf_68 rfl 1 rfl ?_
        refine gm_iadd C dX11_rollOf_69 ?_
        obtain ⟨h6, hf⟩ := gm_ck_s hf
        refine gm_iald C (Nat.le_of_ble_eq_true rfl) rfl rfl h6 dX11_rollOf_70 ?_
        exact gm_iretK C hr rfl dX11_rollOf_71 hf
      · have hf := gm_if _ c5 hf
        by_cases c7 : a1 = 2
        · have hf := gm_it _ c7 hf
          refine gm_tableIn C 72 dX11_rollOf_12 (by rw [c7]; decide) (by rw [c7]; decide) (by rw [c7]; rfl) (by decide) ?_
          refine gm_aload_n C dX11_rollOf_72 rfl 0 rfl ?_
          refine gm_iload_n C dX11_rollOf_73 rfl 1 rfl ?_
          obtain ⟨v8, ev8, hf⟩ := gm_bp1_s hf
          refine gm_callVi (As := [.int a0]) C (Mo_soon_c l cf ad ev8) (Nat.le_of_ble_eq_true rfl) rfl kc_11 wy_Mo_soon rfl wl_1082 rfl ⟨(Nat.le_of_ble_eq_true rfl), (Nat.le_of_ble_eq_true rfl)⟩ rfl (Nat.le_of_ble_eq_true rfl) dX11_rollOf_74 ?_
          exact gm_iretK C hr rfl dX11_rollOf_77 hf
        · have hf := gm_if _ c7 hf
          by_cases c9 : a1 = 3
          · have hf := gm_it _ c9 hf
            refine gm_tableIn C 78 dX11_rollOf_12 (by rw [c9]; decide) (by rw [c9]; decide) (by rw [c9]; rfl) (by decide) ?_
            refine gm_aload_n C dX11_rollOf_78 rfl 0 rfl ?_
            refine gm_iload_n C dX11_rollOf_79 rfl 1 rfl ?_
            obtain ⟨v10, ev10, hf⟩ := gm_bp1_s hf
            refine gm_callVi (As := [.int a0]) C (Mo_who_c l cf ad ev10) (Nat.le_of_ble_eq_true rfl) rfl kc_11 wy_Mo_who rfl wl_1143 rfl ⟨(Nat.le_of_ble_eq_true rfl), (Nat.le_of_ble_eq_true rfl)⟩ rfl (Nat.le_of_ble_eq_true rfl) dX11_rollOf_80 ?_
            exact gm_iretK C hr rfl dX11_rollOf_83 hf
          · have hf := gm_if _ c9 hf
            by_cases c11 : a1 = 4
            · have hf := gm_it _ c11 hf
              refine gm_tableIn C 84 dX11_rollOf_12 (by rw [c11]; decide) (by rw [c11]; decide) (by rw [c11]; rfl) (by decide) ?_
              refine gm_aload_n C dX11_rollOf_84 rfl 0 rfl ?_
              refine gm_iload_n C dX11_rollOf_85 rfl 1 rfl ?_
              refine gm_iconst (v := 1) C dX11_rollOf_86 (by decide) ?_
              obtain ⟨v12, ev12, hf⟩ := gm_bp1_s hf
              refine gm_callVi (As := [.int a0, .int 1]) C (Mo_part_c l cf ad ev12) (Nat.le_of_ble_eq_true rfl) rfl kc_11 wy_Mo_part rfl wl_1147 rfl ⟨(Nat.le_of_ble_eq_true rfl), (Nat.le_of_ble_eq_true rfl)⟩ rfl (Nat.le_of_ble_eq_true rfl) dX11_rollOf_87 ?_
              exact gm_iretK C hr rfl dX11_rollOf_90 hf
            · have hf := gm_if _ c11 hf
              by_cases c13 : a1 = 5
              · have hf := gm_it _ c13 hf
                refine gm_tableIn C 91 dX11_rollOf_12 (by rw [c13]; decide) (by rw [c13]; decide) (by rw [c13]; rfl) (by decide) ?_
                refine gm_aload_n C dX11_rollOf_91 rfl 0 rfl ?_
                refine gm_iload_n C dX11_rollOf_92 rfl 1 rfl ?_
                refine gm_iconst (v := 0) C dX11_rollOf_93 (by decide) ?_
                obtain ⟨v14, ev14, hf⟩ := gm_bp1_s hf
                refine gm_callVi (As := [.int a0, .int 0]) C (Mo_part_c l cf ad ev14) (Nat.le_of_ble_eq_true rfl) rfl kc_11 wy_Mo_part rfl wl_1147 rfl ⟨(Nat.le_of_ble_eq_true rfl), (Nat.le_of_ble_eq_true rfl)⟩ rfl (Nat.le_of_ble_eq_true rfl) dX11_rollOf_94 ?_
                exact gm_iretK C hr rfl dX11_rollOf_97 hf
              · have hf := gm_if _ c13 hf
                have nc3 : (a1).toInt ≠ 0 := gm_nt c3
                have nc5 : (a1).toInt ≠ 1 := gm_nt c5
                have nc7 : (a1).toInt ≠ 2 := gm_nt c7
                have nc9 : (a1).toInt ≠ 3 := gm_nt c9
                have nc11 : (a1).toInt ≠ 4 := gm_nt c11
                have nc13 : (a1).toInt ≠ 5 := gm_nt c13
                refine gm_tableOut C 98 dX11_rollOf_12 (by omega) (by decide) ?_
                refine gm_ldc (v := (-1000000002)) C wl_960 dX11_rollOf_98 ?_
                exact gm_iretK C hr rfl dX11_rollOf_100 hf
  · have hf := gm_it _ c2 hf
    refine gm_ldc (v := (-1000000001)) C wl_1134 dX11_rollOf_8 ?_
    exact gm_iretK C hr rfl dX11_rollOf_10 hf
theorem dX11_isRider_0 : decode cX11_isRider 0 = .ok (.iload_n 1, 1) := by decide +kernel
theorem dX11_isRider_1 : decode cX11_isRider 1 = .ok (.i2l, 1) := by decide +kernel
theorem dX11_isRider_2 : decode cX11_isRider 2 = .ok (.lconst 0, 1) := by decide +kernel
theorem dX11_isRider_3 : decode cX11_isRider 3 = .ok (.aload_n 0, 1) := by decide +kernel
theorem dX11_isRider_4 : decode cX11_isRider 4 = .ok (.getfield 76, 3) := by decide +kernel
theorem dX11_isRider_7 : decode cX11_isRider 7 = .ok (.iconst 1, 1) := by decide +kernel
theorem dX11_isRider_8 : decode cX11_isRider 8 = .ok (.isub, 1) := by decide +kernel
theorem dX11_isRider_9 : decode cX11_isRider 9 = .ok (.i2l, 1) := by decide +kernel
theorem dX11_isRider_10 : decode cX11_isRider 10 = .ok (.invokestatic 69, 3) := by decide +kernel
theorem dX11_isRider_13 : decode cX11_isRider 13 = .ok (.ireturn, 1) := by decide +kernel
def Mo_isRider (a0 : Int32) (S : gm_M) : Option Int32 :=
  gm_bp1 (Mo_in ((a0 : Int32).toInt64) 0 (((S.1 0 4) - 1 : Int32).toInt64)) fun v1 =>
  if vp_nar .boolean v1 = v1 then (some v1) else none
set_option maxHeartbeats 4000000 in
set_option maxRecDepth 100000 in
theorem Mo_isRider_c (l : Launch) (cf : gm_C) (ad : Nat → Nat)    {a0 : Int32} {S : gm_M} {r : Int32}  (hf : Mo_isRider a0 S = some r) : gm_Met l yX11_isRider cX11_isRider 2 (some .boolean) 1 25 cf ad gm_sM 17 [.ref (ad 0), .int a0] S (some (.int r)) S := by
  refine gm_met (by decide +kernel) (Nat.le_of_ble_eq_true rfl) ?_
  intro p e s m args below meth c C hr
  have C : gm_F p s m args meth c cf ad 17 cX11_isRider 2 RX11 := C
  refine gm_lve (lv' := [(0, .ref (ad 0)), (1, .int a0)]) rfl ?_
  unfold Mo_isRider at hf
  refine gm_iload_n C dX11_isRider_0 rfl 1 rfl ?_
  refine gm_i2l C dX11_isRider_1 rfl ?_
  refine gm_lconst (v := 0) C dX11_isRider_2 (by decide) ?_
  refine gm_aload_n C dX11_isRider_3 rfl 0 rfl ?_
  refine gm_geti C (Nat.le_of_ble_eq_true rfl) rfl kc_11 (k := 4) rfl (by decide) rfl wl_844 dX11_isRider_4 ?_
  refine gm_iconst (v := 1) C dX11_isRider_7 (by decide) ?_
  refine gm_isub C dX11_isRider_8 ?_
  refine gm_i2l C dX11_isRider_9 rfl ?_
  obtain ⟨v1, ev1, hf⟩ := gm_bp1_s hf
  refine gm_callSi (As := [.long ((a0 : Int32).toInt64), .long 0, .long (((S.1 0 4) - 1 : Int32).toInt64)]) C (Mo_in_c l cf ad ev1 (S := S)) wy_Mo_in wl_957 rfl ⟨(Nat.le_of_ble_eq_true rfl), (Nat.le_of_ble_eq_true rfl)⟩ rfl (Nat.le_of_ble_eq_true rfl) dX11_isRider_10 ?_
  obtain ⟨h2, hf⟩ := gm_in _ hf
  exact gm_iretK C hr (gm_zb h2) dX11_isRider_13 hf
theorem dX11_rider_0 : decode cX11_rider 0 = .ok (.aload_n 0, 1) := by decide +kernel
theorem dX11_rider_1 : decode cX11_rider 1 = .ok (.iload_n 1, 1) := by decide +kernel
theorem dX11_rider_2 : decode cX11_rider 2 = .ok (.invokevirtual 262, 3) := by decide +kernel
theorem dX11_rider_5 : decode cX11_rider 5 = .ok (.ifCond .ne 6, 3) := by decide +kernel
theorem dX11_rider_8 : decode cX11_rider 8 = .ok (.ldc 251, 2) := by decide +kernel
theorem dX11_rider_10 : decode cX11_rider 10 = .ok (.ireturn, 1) := by decide +kernel
theorem dX11_rider_11 : decode cX11_rider 11 = .ok (.iload_n 2, 1) := by decide +kernel
theorem dX11_rider_12 : decode cX11_rider 12 = .ok (.tableswitch 83 0 4 #[36, 43, 53, 63, 73], 36) := by decide +kernel
theorem dX11_rider_48 : decode cX11_rider 48 = .ok (.aload_n 0, 1) := by decide +kernel
theorem dX11_rider_49 : decode cX11_rider 49 = .ok (.getfield 7, 3) := by decide +kernel
theorem dX11_rider_52 : decode cX11_rider 52 = .ok (.iload_n 1, 1) := by decide +kernel
theorem dX11_rider_53 : decode cX11_rider 53 = .ok (.iaload, 1) := by decide +kernel
theorem dX11_rider_54 : decode cX11_rider 54 = .ok (.ireturn, 1) := by decide +kernel
theorem dX11_rider_55 : decode cX11_rider 55 = .ok (.aload_n 0, 1) := by decide +kernel
theorem dX11_rider_56 : decode cX11_rider 56 = .ok (.getfield 13, 3) := by decide +kernel
theorem dX11_rider_59 : decode cX11_rider 59 = .ok (.bipush 21, 2) := by decide +kernel
theorem dX11_rider_61 : decode cX11_rider 61 = .ok (.iload_n 1, 1) := by decide +kernel
theorem dX11_rider_62 : decode cX11_rider 62 = .ok (.iadd, 1) := by decide +kernel
theorem dX11_rider_63 : decode cX11_rider 63 = .ok (.iaload, 1) := by decide +kernel
theorem dX11_rider_64 : decode cX11_rider 64 = .ok (.ireturn, 1) := by decide +kernel
theorem dX11_rider_65 : decode cX11_rider 65 = .ok (.aload_n 0, 1) := by decide +kernel
theorem dX11_rider_66 : decode cX11_rider 66 = .ok (.getfield 13, 3) := by decide +kernel
theorem dX11_rider_69 : decode cX11_rider 69 = .ok (.bipush 26, 2) := by decide +kernel
theorem dX11_rider_71 : decode cX11_rider 71 = .ok (.iload_n 1, 1) := by decide +kernel
theorem dX11_rider_72 : decode cX11_rider 72 = .ok (.iadd, 1) := by decide +kernel
theorem dX11_rider_73 : decode cX11_rider 73 = .ok (.iaload, 1) := by decide +kernel
theorem dX11_rider_74 : decode cX11_rider 74 = .ok (.ireturn, 1) := by decide +kernel
theorem dX11_rider_75 : decode cX11_rider 75 = .ok (.aload_n 0, 1) := by decide +kernel
theorem dX11_rider_76 : decode cX11_rider 76 = .ok (.getfield 13, 3) := by decide +kernel
theorem dX11_rider_79 : decode cX11_rider 79 = .ok (.bipush 31, 2) := by decide +kernel
theorem dX11_rider_81 : decode cX11_rider 81 = .ok (.iload_n 1, 1) := by decide +kernel
theorem dX11_rider_82 : decode cX11_rider 82 = .ok (.iadd, 1) := by decide +kernel
theorem dX11_rider_83 : decode cX11_rider 83 = .ok (.iaload, 1) := by decide +kernel
theorem dX11_rider_84 : decode cX11_rider 84 = .ok (.ireturn, 1) := by decide +kernel
theorem dX11_rider_85 : decode cX11_rider 85 = .ok (.aload_n 0, 1) := by decide +kernel
theorem dX11_rider_86 : decode cX11_rider 86 = .ok (.getfield 13, 3) := by decide +kernel
theorem dX11_rider_89 : decode cX11_rider 89 = .ok (.bipush 36, 2) := by decide +kernel
theorem dX11_rider_91 : decode cX11_rider 91 = .ok (.iload_n 1, 1) := by decide +kernel
theorem dX11_rider_92 : decode cX11_rider 92 = .ok (.iadd, 1) := by decide +kernel
theorem dX11_rider_93 : decode cX11_rider 93 = .ok (.iaload, 1) := by decide +kernel
theorem dX11_rider_94 : decode cX11_rider 94 = .ok (.ireturn, 1) := by decide +kernel
theorem dX11_rider_95 : decode cX11_rider 95 = .ok (.ldc 96, 2) := by decide +kernel
theorem dX11_rider_97 : decode cX11_rider 97 = .ok (.ireturn, 1) := by decide +kernel
def Mo_rider (a0 : Int32) (a1 : Int32) (S : gm_M) : Option Int32 :=
  gm_bp1 (Mo_isRider a0 S) fun v1 =>
  if v1 = 0 then (
    some ((-1000000001))
  ) else (
    if a1 = 0 then (
      gm_ck (a0) 5 <|
      some (S.1 1 a0.toNatClampNeg)
    ) else (
    if a1 = 1 then (
      gm_ck (21 + a0) 42 <|
      some (S.1 2 (21 + a0).toNatClampNeg)
    ) else (
    if a1 = 2 then (
      gm_ck (26 + a0) 42 <|
      some (S.1 2 (26 + a0).toNatClampNeg)
    ) else (
    if a1 = 3 then (
      gm_ck (31 + a0) 42 <|
      some (S.1 2 (31 + a0).toNatClampNeg)
    ) else (
    if a1 = 4 then (
      gm_ck (36 + a0) 42 <|
      some (S.1 2 (36 + a0).toNatClampNeg)
    ) else (
      some ((-1000000002))
    )))))
  )
set_option maxHeartbeats 4000000 in
set_option maxRecDepth 100000 in
theorem Mo_rider_c (l : Launch) (cf : gm_C) (ad : Nat → Nat)    {a0 : Int32} {a1 : Int32} {S : gm_M} {r : Int32}  (hf : Mo_rider a0 a1 S = some r) : gm_Met l yX11_rider cX11_rider 3 (some .int) 2 46 cf ad gm_sM 17 [.ref (ad 0), .int a0, .int a1] S (some (.int r)) S := by
  refine gm_met (by decide +kernel) (Nat.le_of_ble_eq_true rfl) ?_
  intro p e s m args below meth c C hr
  have C : gm_F p s m args meth c cf ad 17 cX11_rider 3 RX11 := C
  refine gm_lve (lv' := [(0, .ref (ad 0)), (1, .int a0), (2, .int a1)]) rfl ?_
  unfold Mo_rider at hf
  refine gm_aload_n C dX11_rider_0 rfl 0 rfl ?_
  refine gm_iload_n C dX11_rider_1 rfl 1 rfl ?_
  obtain ⟨v1, ev1, hf⟩ := gm_bp1_s hf
  refine gm_callVi (As := [.int a0]) C (Mo_isRider_c l cf ad ev1) (Nat.le_of_ble_eq_true rfl) rfl kc_11 wy_Mo_isRider rfl wl_1159 rfl ⟨(Nat.le_of_ble_eq_true rfl), (Nat.le_of_ble_eq_true rfl)⟩ rfl (Nat.le_of_ble_eq_true rfl) dX11_rider_2 ?_
  refine gm_if_ne C 11 dX11_rider_5 (by decide) (fun c2 => ?_) (fun c2 => ?_)
  · have hf := gm_if _ c2 hf
    refine gm_iload_n C dX11_rider_11 rfl 2 rfl ?_
    by_cases c3 : a1 = 0
    · have hf := gm_it _ c3 hf
      refine gm_tableIn C 48 dX11_rider_12 (by rw [c3]; decide) (by rw [c3]; decide) (by rw [c3]; rfl) (by decide) ?_
      refine gm_aload_n C dX11_rider_48 rfl 0 rfl ?_
      refine gm_getr (j := 1) (u := 1) C (Nat.le_of_ble_eq_true rfl) rfl kc_11 (k := 5) rfl (by decide) rfl rfl wl_845 dX11_rider_49 ?_
      refine gm_iload_n C dX11_rider_52 rfl 1 rfl ?_
      obtain ⟨h4, hf⟩ := gm_ck_s hf
      refine gm_iald C (Nat.le_of_ble_eq_true rfl) rfl rfl h4 dX11_rider_53 ?_
      exact gm_iretK C hr rfl dX11_rider_54 hf
    · have hf := gm_if _ c3 hf
      by_cases c5 : a1 = 1
      · have hf := gm_it _ c5 hf
        refine gm_tableIn C 55 dX11_rider_12 (by rw [c5]; decide) (by rw [c5]; decide) (by rw [c5]; rfl) (by decide) ?_
        refine gm_aload_n C dX11_rider_55 rfl 0 rfl ?_
        refine gm_getr (j := 2) (u := 2) C (Nat.le_of_ble_eq_true rfl) rfl kc_11 (k := 6) rfl (by decide) rfl rfl wl_846 dX11_rider_56 ?_
        refine gm_bipush (v := 21) C dX11_rider_59 (by decide) ?_
        refine gm_iload_n C dX11_rider_61 rfl 1 rfl ?_
        refine gm_iadd C dX11_rider_62 ?_
        obtain ⟨h6, hf⟩ := gm_ck_s hf
        refine gm_iald C (Nat.le_of_ble_eq_true rfl) rfl rfl h6 dX11_rider_63 ?_
        exact gm_iretK C hr rfl dX11_rider_64 hf
      · have hf := gm_if _ c5 hf
        by_cases c7 : a1 = 2
        · have hf := gm_it _ c7 hf
          refine gm_tableIn C 65 dX11_rider_12 (by rw [c7]; decide) (by rw [c7]; decide) (by rw [c7]; rfl) (by decide) ?_
          refine gm_aload_n C dX11_rider_65 rfl 0 rfl ?_
          refine gm_getr (j := 2) (u := 2) C (Nat.le_of_ble_eq_true rfl) rfl kc_11 (k := 6) rfl (by decide) rfl rfl wl_846 dX11_rider_66 ?_
          refine gm_bipush (v := 26) C dX11_rider_69 (by decide) ?_
          refine gm_iload_n C dX11_rider_71 rfl 1 rfl ?_
          refine gm_iadd C dX11_rider_72 ?_
          obtain ⟨h8, hf⟩ := gm_ck_s hf
          refine gm_iald C (Nat.le_of_ble_eq_true rfl) rfl rfl h8 dX11_rider_73 ?_
          exact gm_iretK C hr rfl dX11_rider_74 hf
        · have hf := gm_if _ c7 hf
          by_cases c9 : a1 = 3
          · have hf := gm_it _ c9 hf
            refine gm_tableIn C 75 dX11_rider_12 (by rw [c9]; decide) (by rw [c9]; decide) (by rw [c9]; rfl) (by decide) ?_
            refine gm_aload_n C dX11_rider_75 rfl 0 rfl ?_
            refine gm_getr (j := 2) (u := 2) C (Nat.le_of_ble_eq_true rfl) rfl kc_11 (k := 6) rfl (by decide) rfl rfl wl_846 dX11_rider_76 ?_
            refine gm_bipush (v := 31) C dX11_rider_79 (by decide) ?_
            refine gm_iload_n C dX11_rider_81 rfl 1 rfl ?_
            refine gm_iadd C dX11_rider_82 ?_
            obtain ⟨h10, hf⟩ := gm_ck_s hf
            refine gm_iald C (Nat.le_of_ble_eq_true rfl) rfl rfl h10 dX11_rider_83 ?_
            exact gm_iretK C hr rfl dX11_rider_84 hf
          · have hf := gm_if _ c9 hf
            by_cases c11 : a1 = 4
            · have hf := gm_it _ c11 hf
              refine gm_tableIn C 85 dX11_rider_12 (by rw [c11]; decide) (by rw [c11]; decide) (by rw [c11]; rfl) (by decide) ?_
              refine gm_aload_n C dX11_rider_85 rfl 0 rfl ?_
              refine gm_getr (j := 2) (u := 2) C (Nat.le_of_ble_eq_true rfl) rfl kc_11 (k := 6) rfl (by decide) rfl rfl wl_846 dX11_rider_86 ?_
              refine gm_bipush (v := 36) C dX11_rider_89 (by decide) ?_
              refine gm_iload_n C dX11_rider_91 rfl 1 rfl ?_
              refine gm_iadd C dX11_rider_92 ?_
              obtain ⟨h12, hf⟩ := gm_ck_s hf
              refine gm_iald C (Nat.le_of_ble_eq_true rfl) rfl rfl h12 dX11_rider_93 ?_
              exact gm_iretK C hr rfl dX11_rider_94 hf
            · have hf := gm_if _ c11 hf
              have nc3 : (a1).toInt ≠ 0 := gm_nt c3
              have nc5 : (a1).toInt ≠ 1 := gm_nt c5
              have nc7 : (a1).toInt ≠ 2 := gm_nt c7
              have nc9 : (a1).toInt ≠ 3 := gm_nt c9
              have nc11 : (a1).toInt ≠ 4 := gm_nt c11
              refine gm_tableOut C 95 dX11_rider_12 (by omega) (by decide) ?_
              refine gm_ldc (v := (-1000000002)) C wl_960 dX11_rider_95 ?_
              exact gm_iretK C hr rfl dX11_rider_97 hf
  · have hf := gm_it _ c2 hf
    refine gm_ldc (v := (-1000000001)) C wl_1134 dX11_rider_8 ?_
    exact gm_iretK C hr rfl dX11_rider_10 hf
theorem dX11_isNumber_0 : decode cX11_isNumber 0 = .ok (.aload_n 0, 1) := by decide +kernel
theorem dX11_isNumber_1 : decode cX11_isNumber 1 = .ok (.getfield 63, 3) := by decide +kernel
theorem dX11_isNumber_4 : decode cX11_isNumber 4 = .ok (.ifCond .le 21, 3) := by decide +kernel
theorem dX11_isNumber_7 : decode cX11_isNumber 7 = .ok (.iload_n 1, 1) := by decide +kernel
theorem dX11_isNumber_8 : decode cX11_isNumber 8 = .ok (.i2l, 1) := by decide +kernel
theorem dX11_isNumber_9 : decode cX11_isNumber 9 = .ok (.lconst 0, 1) := by decide +kernel
theorem dX11_isNumber_10 : decode cX11_isNumber 10 = .ok (.aload_n 0, 1) := by decide +kernel
theorem dX11_isNumber_11 : decode cX11_isNumber 11 = .ok (.getfield 79, 3) := by decide +kernel
theorem dX11_isNumber_14 : decode cX11_isNumber 14 = .ok (.i2l, 1) := by decide +kernel
theorem dX11_isNumber_15 : decode cX11_isNumber 15 = .ok (.invokestatic 69, 3) := by decide +kernel
theorem dX11_isNumber_18 : decode cX11_isNumber 18 = .ok (.ifCond .eq 7, 3) := by decide +kernel
theorem dX11_isNumber_21 : decode cX11_isNumber 21 = .ok (.iconst 1, 1) := by decide +kernel
theorem dX11_isNumber_22 : decode cX11_isNumber 22 = .ok (.goto 4, 3) := by decide +kernel
theorem dX11_isNumber_25 : decode cX11_isNumber 25 = .ok (.iconst 0, 1) := by decide +kernel
theorem dX11_isNumber_26 : decode cX11_isNumber 26 = .ok (.ireturn, 1) := by decide +kernel
def Mo_isNumber (a0 : Int32) (S : gm_M) : Option Int32 :=
  if S.1 0 0 ≤ 0 then (
    some (0)
  ) else (
    gm_bp1 (Mo_in ((a0 : Int32).toInt64) 0 ((S.1 0 1 : Int32).toInt64)) fun v2 =>
    if v2 = 0 then (
      some (0)
    ) else (
      some (1)
    )
  )
set_option maxHeartbeats 4000000 in
set_option maxRecDepth 100000 in
theorem Mo_isNumber_c (l : Launch) (cf : gm_C) (ad : Nat → Nat)    {a0 : Int32} {S : gm_M} {r : Int32}  (hf : Mo_isNumber a0 S = some r) : gm_Met l yX11_isNumber cX11_isNumber 2 (some .boolean) 1 25 cf ad gm_sM 17 [.ref (ad 0), .int a0] S (some (.int r)) S := by
  refine gm_met (by decide +kernel) (Nat.le_of_ble_eq_true rfl) ?_
  intro p e s m args below meth c C hr
  have C : gm_F p s m args meth c cf ad 17 cX11_isNumber 2 RX11 := C
  refine gm_lve (lv' := [(0, .ref (ad 0)), (1, .int a0)]) rfl ?_
  unfold Mo_isNumber at hf
  refine gm_aload_n C dX11_isNumber_0 rfl 0 rfl ?_
  refine gm_geti C (Nat.le_of_ble_eq_true rfl) rfl kc_11 (k := 0) rfl (by decide) rfl wl_840 dX11_isNumber_1 ?_
  refine gm_if_le C 25 dX11_isNumber_4 (by decide) (fun c1 => ?_) (fun c1 => ?_)
  · have hf := gm_it _ c1 hf
    refine gm_iconst (v := 0) C dX11_isNumber_25 (by decide) ?_
    exact gm_iretK C hr rfl dX11_isNumber_26 hf
  · have hf := gm_if _ c1 hf
    refine gm_iload_n C dX11_isNumber_7 rfl 1 rfl ?_
    refine gm_i2l C dX11_isNumber_8 rfl ?_
    refine gm_lconst (v := 0) C dX11_isNumber_9 (by decide) ?_
    refine gm_aload_n C dX11_isNumber_10 rfl 0 rfl ?_
    refine gm_geti C (Nat.le_of_ble_eq_true rfl) rfl kc_11 (k := 1) rfl (by decide) rfl wl_841 dX11_isNumber_11 ?_
    refine gm_i2l C dX11_isNumber_14 rfl ?_
    obtain ⟨v2, ev2, hf⟩ := gm_bp1_s hf
    refine gm_callSi (As := [.long ((a0 : Int32).toInt64), .long 0, .long ((S.1 0 1 : Int32).toInt64)]) C (Mo_in_c l cf ad ev2 (S := S)) wy_Mo_in wl_957 rfl ⟨(Nat.le_of_ble_eq_true rfl), (Nat.le_of_ble_eq_true rfl)⟩ rfl (Nat.le_of_ble_eq_true rfl) dX11_isNumber_15 ?_
    refine gm_if_eq C 25 dX11_isNumber_18 (by decide) (fun c3 => ?_) (fun c3 => ?_)
    · have hf := gm_it _ c3 hf
      refine gm_iconst (v := 0) C dX11_isNumber_25 (by decide) ?_
      exact gm_iretK C hr rfl dX11_isNumber_26 hf
    · have hf := gm_if _ c3 hf
      refine gm_iconst (v := 1) C dX11_isNumber_21 (by decide) ?_
      refine gm_goto C 26 dX11_isNumber_22 (by decide) ?_
      exact gm_iretK C hr rfl dX11_isNumber_26 hf
