theorem dX8_falls_0 : decode cX8_falls 0 = .ok (.iconst 0, 1) := by decide +kernel
theorem dX8_falls_1 : decode cX8_falls 1 = .ok (.istore_n 1, 1) := by decide +kernel
theorem dX8_falls_2 : decode cX8_falls 2 = .ok (.iconst 1, 1) := by decide +kernel
theorem dX8_falls_3 : decode cX8_falls 3 = .ok (.istore_n 2, 1) := by decide +kernel
theorem dX8_falls_4 : decode cX8_falls 4 = .ok (.iload_n 2, 1) := by decide +kernel
theorem dX8_falls_5 : decode cX8_falls 5 = .ok (.aload_n 0, 1) := by decide +kernel
theorem dX8_falls_6 : decode cX8_falls 6 = .ok (.getfield 19, 3) := by decide +kernel
theorem dX8_falls_9 : decode cX8_falls 9 = .ok (.if_icmp .ge 29, 3) := by decide +kernel
theorem dX8_falls_12 : decode cX8_falls 12 = .ok (.aload_n 0, 1) := by decide +kernel
theorem dX8_falls_13 : decode cX8_falls 13 = .ok (.getfield 7, 3) := by decide +kernel
theorem dX8_falls_16 : decode cX8_falls 16 = .ok (.iload_n 2, 1) := by decide +kernel
theorem dX8_falls_17 : decode cX8_falls 17 = .ok (.iaload, 1) := by decide +kernel
theorem dX8_falls_18 : decode cX8_falls 18 = .ok (.aload_n 0, 1) := by decide +kernel
theorem dX8_falls_19 : decode cX8_falls 19 = .ok (.getfield 7, 3) := by decide +kernel
theorem dX8_falls_22 : decode cX8_falls 22 = .ok (.iload_n 2, 1) := by decide +kernel
theorem dX8_falls_23 : decode cX8_falls 23 = .ok (.iconst 1, 1) := by decide +kernel
theorem dX8_falls_24 : decode cX8_falls 24 = .ok (.isub, 1) := by decide +kernel
theorem dX8_falls_25 : decode cX8_falls 25 = .ok (.iaload, 1) := by decide +kernel
theorem dX8_falls_26 : decode cX8_falls 26 = .ok (.if_icmp .ge 6, 3) := by decide +kernel
theorem dX8_falls_29 : decode cX8_falls 29 = .ok (.iinc 1 1, 3) := by decide +kernel
theorem dX8_falls_32 : decode cX8_falls 32 = .ok (.iinc 2 1, 3) := by decide +kernel
theorem dX8_falls_35 : decode cX8_falls 35 = .ok (.goto (-31), 3) := by decide +kernel
theorem dX8_falls_38 : decode cX8_falls 38 = .ok (.iload_n 1, 1) := by decide +kernel
theorem dX8_falls_39 : decode cX8_falls 39 = .ok (.ireturn, 1) := by decide +kernel
def Tk_falls_L4_b (t : Nat) (S : gm_M) (rec : Int32 → Int32 → Option (Int32)) (y1 : Int32) (y2 : Int32) : Option (Int32) :=
  if S.1 t 1 ≤ y2 then (
    some (y1)
  ) else (
    gm_ck (y2) 4 <|
    gm_ck (y2 - 1) 4 <|
    gm_bp1 (show Option (Int32) from
      if S.1 (t + 1) (y2 - 1).toNatClampNeg ≤ S.1 (t + 1) y2.toNatClampNeg then (
        some (y1)
      ) else (
        gm_lt (α := Int32) (y1 + 1) fun x10 =>
        some (x10)
      )
    ) fun x7 =>
    gm_lt (α := Int32) (y2 + 1) fun x8 =>
    rec x7 x8
  )
def Tk_falls_L4 (t : Nat) (S : gm_M) : Nat → Int32 → Int32 → Option (Int32)
  | 0 => fun _ _ => none
  | n + 1 => Tk_falls_L4_b t S (Tk_falls_L4 t S n)
def Tk_falls (fl : Nat) (t : Nat) (S : gm_M) : Option Int32 :=
  gm_bp1 (Tk_falls_L4 t S fl 0 1) fun z3 =>
  some (z3)
set_option maxHeartbeats 4000000 in
set_option maxRecDepth 100000 in
theorem Tk_falls_c (l : Launch) (cf : gm_C) (ad : Nat → Nat) {fl : Nat} {t : Nat} (ht : gm_isTk t)  {S : gm_M} {r : Int32}  (hf : Tk_falls fl t S = some r) : gm_Met l yX8_falls cX8_falls 3 (some .int) 0 0 cf ad gm_sC 106 [.ref (ad t)] S (some (.int r)) S := by
  refine gm_met (by decide +kernel) (Nat.le_of_ble_eq_true rfl) ?_
  intro p e s m args below meth c C hr
  have C : gm_F p s m args meth c cf ad 106 cX8_falls 3 RX8 := C
  refine gm_lve (lv' := [(0, .ref (ad t))]) rfl ?_
  unfold Tk_falls at hf
  refine gm_iconst (v := 0) C dX8_falls_0 (by decide) ?_
  refine gm_istore_n (lv' := [(1, .int 0), (0, .ref (ad t))]) C dX8_falls_1 rfl (by decide) rfl ?_
  refine gm_iconst (v := 1) C dX8_falls_2 (by decide) ?_
  refine gm_istore_n (lv' := [(2, .int 1), (1, .int 0), (0, .ref (ad t))]) C dX8_falls_3 rfl (by decide) rfl ?_
  have L4 : ∀ (n : Nat) (y1 : Int32) (y2 : Int32) (z3 : Int32), Tk_falls_L4 t S n y1 y2 = some (z3) → gm_G p l e { frames := 0, cells := 0, slots := 0, locals := 0 } s m args below meth c (MQ below (gm_Q cf ad gm_sC 106 (some (.int r)) S) args s 0 0 (gm_A ad 106)) cf ad gm_sC 106 3 S 38 [(1, .int z3)] [] → gm_G p l e { frames := 0, cells := 0, slots := 0, locals := 0 } s m args below meth c (MQ below (gm_Q cf ad gm_sC 106 (some (.int r)) S) args s 0 0 (gm_A ad 106)) cf ad gm_sC 106 3 S 4 [(0, .ref (ad t)), (1, .int y1), (2, .int y2)] [] := by
    intro n
    induction n with
    | zero => intro y1 y2 z3 hf K; cases (show (none : Option _) = some _ from hf)
    | succ n ih =>
      intro y1 y2 z3 hf K
      have hf : Tk_falls_L4_b t S (Tk_falls_L4 t S n) y1 y2 = some (z3) := hf
      unfold Tk_falls_L4_b at hf
      refine gm_iload_n C dX8_falls_4 rfl 2 rfl ?_
      refine gm_aload_n C dX8_falls_5 rfl 0 rfl ?_
      refine gm_geti C (gm_tk_l0 ht) (gm_tk_k0 ht) kc_8 (k := 1) rfl (by decide) rfl wl_192 dX8_falls_6 ?_
      refine gm_icmp_ge C 38 dX8_falls_9 (by decide) (fun c4 => ?_) (fun c4 => ?_)
      · have hf := gm_it _ c4 hf
        cases hf
        exact gm_lvp [1] rfl K
      · have hf := gm_if _ c4 hf
        refine gm_aload_n C dX8_falls_12 rfl 0 rfl ?_
        refine gm_getr (j := 1) (u := (t + 1)) C (gm_tk_l0 ht) (gm_tk_k0 ht) kc_8 (k := 0) rfl (by decide) rfl rfl wl_191 dX8_falls_13 ?_
        refine gm_iload_n C dX8_falls_16 rfl 2 rfl ?_
        obtain ⟨h5, hf⟩ := gm_ck_s hf
        refine gm_iald C (gm_tk_l1 ht) (gm_tk_k1 ht) (gm_tk_n1 ht) h5 dX8_falls_17 ?_
        refine gm_aload_n C dX8_falls_18 rfl 0 rfl ?_
        refine gm_getr (j := 1) (u := (t + 1)) C (gm_tk_l0 ht) (gm_tk_k0 ht) kc_8 (k := 0) rfl (by decide) rfl rfl wl_191 dX8_falls_19 ?_
        refine gm_iload_n C dX8_falls_22 rfl 2 rfl ?_
        refine gm_iconst (v := 1) C dX8_falls_23 (by decide) ?_
        refine gm_isub C dX8_falls_24 ?_
        obtain ⟨h6, hf⟩ := gm_ck_s hf
        refine gm_iald C (gm_tk_l1 ht) (gm_tk_k1 ht) (gm_tk_n1 ht) h6 dX8_falls_25 ?_
        obtain ⟨x7, hx, hf⟩ := gm_bp1_s hf
        have key : gm_G p l e { frames := 0, cells := 0, slots := 0, locals := 0 } s m args below meth c (MQ below (gm_Q cf ad gm_sC 106 (some (.int r)) S) args s 0 0 (gm_A ad 106)) cf ad gm_sC 106 3 S 32 [(0, .ref (ad t)), (1, .int x7), (2, .int y2)] [] := by
          obtain ⟨x8, ex8, hf⟩ := gm_lt_s hf
          refine gm_iinc (v := x8) (lv' := [(2, .int x8), (0, .ref (ad t)), (1, .int x7)]) (j := 2) C dX8_falls_32 rfl (by rw [ex8]; rfl) (by decide) rfl ?_
          refine gm_goto C 4 dX8_falls_35 (by decide) ?_
          exact gm_lvp [1, 2, 0] rfl (ih _ _ _ hf K)
        have hf := hx
        refine gm_icmp_ge C 32 dX8_falls_26 (by decide) (fun c9 => ?_) (fun c9 => ?_)
        · have hf := gm_it _ c9 hf
          cases hf
          exact gm_lvp [0, 1, 2] rfl key
        · have hf := gm_if _ c9 hf
          obtain ⟨x10, ex10, hf⟩ := gm_lt_s hf
          refine gm_iinc (v := x10) (lv' := [(1, .int x10), (0, .ref (ad t)), (2, .int y2)]) (j := 1) C dX8_falls_29 rfl (by rw [ex10]; rfl) (by decide) rfl ?_
          cases hf
          exact gm_lvp [1, 0, 2] rfl key
  obtain ⟨z3, hx, hf⟩ := gm_bp1_s hf
  refine gm_lvp [2, 1, 0] rfl (L4 fl _ _ _ hx ?_)
  refine gm_iload_n C dX8_falls_38 rfl 0 rfl ?_
  exact gm_iretK C hr rfl dX8_falls_39 hf
theorem dX6_sayYes_0 : decode cX6_sayYes 0 = .ok (.iload_n 0, 1) := by decide +kernel
theorem dX6_sayYes_1 : decode cX6_sayYes 1 = .ok (.invokestatic 29, 3) := by decide +kernel
theorem dX6_sayYes_4 : decode cX6_sayYes 4 = .ok (.istore_n 2, 1) := by decide +kernel
theorem dX6_sayYes_5 : decode cX6_sayYes 5 = .ok (.iload_n 0, 1) := by decide +kernel
theorem dX6_sayYes_6 : decode cX6_sayYes 6 = .ok (.invokestatic 32, 3) := by decide +kernel
theorem dX6_sayYes_9 : decode cX6_sayYes 9 = .ok (.istore_n 3, 1) := by decide +kernel
theorem dX6_sayYes_10 : decode cX6_sayYes 10 = .ok (.iload_n 0, 1) := by decide +kernel
theorem dX6_sayYes_11 : decode cX6_sayYes 11 = .ok (.invokestatic 35, 3) := by decide +kernel
theorem dX6_sayYes_14 : decode cX6_sayYes 14 = .ok (.tableswitch 111 0 4 #[34, 48, 62, 77, 97], 34) := by decide +kernel
theorem dX6_sayYes_48 : decode cX6_sayYes 48 = .ok (.aload_n 1, 1) := by decide +kernel
theorem dX6_sayYes_49 : decode cX6_sayYes 49 = .ok (.invokevirtual 38, 3) := by decide +kernel
theorem dX6_sayYes_52 : decode cX6_sayYes 52 = .ok (.iload_n 2, 1) := by decide +kernel
theorem dX6_sayYes_53 : decode cX6_sayYes 53 = .ok (.if_icmp .gt 7, 3) := by decide +kernel
theorem dX6_sayYes_56 : decode cX6_sayYes 56 = .ok (.iconst 1, 1) := by decide +kernel
theorem dX6_sayYes_57 : decode cX6_sayYes 57 = .ok (.goto 4, 3) := by decide +kernel
theorem dX6_sayYes_60 : decode cX6_sayYes 60 = .ok (.iconst 0, 1) := by decide +kernel
theorem dX6_sayYes_61 : decode cX6_sayYes 61 = .ok (.ireturn, 1) := by decide +kernel
theorem dX6_sayYes_62 : decode cX6_sayYes 62 = .ok (.aload_n 1, 1) := by decide +kernel
theorem dX6_sayYes_63 : decode cX6_sayYes 63 = .ok (.invokevirtual 44, 3) := by decide +kernel
theorem dX6_sayYes_66 : decode cX6_sayYes 66 = .ok (.iload_n 2, 1) := by decide +kernel
theorem dX6_sayYes_67 : decode cX6_sayYes 67 = .ok (.if_icmp .gt 7, 3) := by decide +kernel
theorem dX6_sayYes_70 : decode cX6_sayYes 70 = .ok (.iconst 1, 1) := by decide +kernel
theorem dX6_sayYes_71 : decode cX6_sayYes 71 = .ok (.goto 4, 3) := by decide +kernel
theorem dX6_sayYes_74 : decode cX6_sayYes 74 = .ok (.iconst 0, 1) := by decide +kernel
theorem dX6_sayYes_75 : decode cX6_sayYes 75 = .ok (.ireturn, 1) := by decide +kernel
theorem dX6_sayYes_76 : decode cX6_sayYes 76 = .ok (.aload_n 1, 1) := by decide +kernel
theorem dX6_sayYes_77 : decode cX6_sayYes 77 = .ok (.iload_n 2, 1) := by decide +kernel
theorem dX6_sayYes_78 : decode cX6_sayYes 78 = .ok (.invokevirtual 47, 3) := by decide +kernel
theorem dX6_sayYes_81 : decode cX6_sayYes 81 = .ok (.iload_n 3, 1) := by decide +kernel
theorem dX6_sayYes_82 : decode cX6_sayYes 82 = .ok (.if_icmp .ne 7, 3) := by decide +kernel
theorem dX6_sayYes_85 : decode cX6_sayYes 85 = .ok (.iconst 1, 1) := by decide +kernel
theorem dX6_sayYes_86 : decode cX6_sayYes 86 = .ok (.goto 4, 3) := by decide +kernel
theorem dX6_sayYes_89 : decode cX6_sayYes 89 = .ok (.iconst 0, 1) := by decide +kernel
theorem dX6_sayYes_90 : decode cX6_sayYes 90 = .ok (.ireturn, 1) := by decide +kernel
theorem dX6_sayYes_91 : decode cX6_sayYes 91 = .ok (.iload_n 2, 1) := by decide +kernel
theorem dX6_sayYes_92 : decode cX6_sayYes 92 = .ok (.ifCond .le 17, 3) := by decide +kernel
theorem dX6_sayYes_95 : decode cX6_sayYes 95 = .ok (.aload_n 1, 1) := by decide +kernel
theorem dX6_sayYes_96 : decode cX6_sayYes 96 = .ok (.getfield 50, 3) := by decide +kernel
theorem dX6_sayYes_99 : decode cX6_sayYes 99 = .ok (.iload_n 2, 1) := by decide +kernel
theorem dX6_sayYes_100 : decode cX6_sayYes 100 = .ok (.irem, 1) := by decide +kernel
theorem dX6_sayYes_101 : decode cX6_sayYes 101 = .ok (.iload_n 3, 1) := by decide +kernel
theorem dX6_sayYes_102 : decode cX6_sayYes 102 = .ok (.if_icmp .ne 7, 3) := by decide +kernel
theorem dX6_sayYes_105 : decode cX6_sayYes 105 = .ok (.iconst 1, 1) := by decide +kernel
theorem dX6_sayYes_106 : decode cX6_sayYes 106 = .ok (.goto 4, 3) := by decide +kernel
theorem dX6_sayYes_109 : decode cX6_sayYes 109 = .ok (.iconst 0, 1) := by decide +kernel
theorem dX6_sayYes_110 : decode cX6_sayYes 110 = .ok (.ireturn, 1) := by decide +kernel
theorem dX6_sayYes_111 : decode cX6_sayYes 111 = .ok (.aload_n 1, 1) := by decide +kernel
theorem dX6_sayYes_112 : decode cX6_sayYes 112 = .ok (.invokevirtual 54, 3) := by decide +kernel
theorem dX6_sayYes_115 : decode cX6_sayYes 115 = .ok (.iload_n 2, 1) := by decide +kernel
theorem dX6_sayYes_116 : decode cX6_sayYes 116 = .ok (.if_icmp .gt 7, 3) := by decide +kernel
theorem dX6_sayYes_119 : decode cX6_sayYes 119 = .ok (.iconst 1, 1) := by decide +kernel
theorem dX6_sayYes_120 : decode cX6_sayYes 120 = .ok (.goto 4, 3) := by decide +kernel
theorem dX6_sayYes_123 : decode cX6_sayYes 123 = .ok (.iconst 0, 1) := by decide +kernel
theorem dX6_sayYes_124 : decode cX6_sayYes 124 = .ok (.ireturn, 1) := by decide +kernel
theorem dX6_sayYes_125 : decode cX6_sayYes 125 = .ok (.iconst 0, 1) := by decide +kernel
theorem dX6_sayYes_126 : decode cX6_sayYes 126 = .ok (.ireturn, 1) := by decide +kernel
def Ru_sayYes (fl : Nat) (t : Nat) (a0 : Int32) (S : gm_M) : Option Int32 :=
  gm_bp1 (Ru_aOf a0) fun v1 =>
  gm_bp1 (Ru_bOf a0) fun v2 =>
  gm_bp1 (Ru_kindOf a0) fun v3 =>
  if v3 = 0 then (
    gm_bp1 (Tk_halvesApart fl t S) fun v5 =>
    if v1 < v5 then (
      some (0)
    ) else (
      some (1)
    )
  ) else (
  if v3 = 1 then (
    gm_bp1 (Tk_unlikePairs fl t S) fun v8 =>
    if v1 < v8 then (
      some (0)
    ) else (
      some (1)
    )
  ) else (
  if v3 = 2 then (
    gm_bp1 (Tk_timesThere fl t v1 S) fun v11 =>
    if v11 = v2 then (
      some (1)
    ) else (
      some (0)
    )
  ) else (
  if v3 = 3 then (
    if v1 ≤ 0 then (
      some (0)
    ) else (
      if v1 = 0 then none else
      if gm_rm (S.1 t 2) v1 = v2 then (
        some (1)
      ) else (
        some (0)
      )
    )
  ) else (
  if v3 = 4 then (
    gm_bp1 (Tk_falls fl t S) fun v18 =>
    if v1 < v18 then (
      some (0)
    ) else (
      some (1)
    )
  ) else (
    some (0)
  )))))
set_option maxHeartbeats 4000000 in
set_option maxRecDepth 100000 in
theorem Ru_sayYes_c (l : Launch) (cf : gm_C) (ad : Nat → Nat) {fl : Nat} {t : Nat} (ht : gm_isTk t) {a0 : Int32} {S : gm_M} {r : Int32}  (hf : Ru_sayYes fl t a0 S = some r) : gm_Met l yX6_sayYes cX6_sayYes 4 (some .boolean) 2 35 cf ad gm_sC 106 [.int a0, .ref (ad t)] S (some (.int r)) S := by
  refine gm_met (by decide +kernel) (Nat.le_of_ble_eq_true rfl) ?_
  intro p e s m args below meth c C hr
  have C : gm_F p s m args meth c cf ad 106 cX6_sayYes 4 RX6 := C
  refine gm_lve (lv' := [(0, .int a0), (1, .ref (ad t))]) rfl ?_
  unfold Ru_sayYes at hf
  refine gm_iload_n C dX6_sayYes_0 rfl 0 rfl ?_
  obtain ⟨v1, ev1, hf⟩ := gm_bp1_s hf
  refine gm_callSi (As := [.int a0]) C (Ru_aOf_c l cf ad ev1 (S := S)) wy_Ru_aOf wl_500 rfl ⟨(Nat.le_of_ble_eq_true rfl), (Nat.le_of_ble_eq_true rfl)⟩ rfl (Nat.le_of_ble_eq_true rfl) dX6_sayYes_1 ?_
  refine gm_istore_n (lv' := [(2, .int v1), (0, .int a0), (1, .ref (ad t))]) C dX6_sayYes_4 rfl (by decide) rfl ?_
  refine gm_iload_n C dX6_sayYes_5 rfl 1 rfl ?_
  obtain ⟨v2, ev2, hf⟩ := gm_bp1_s hf
  refine gm_callSi (As := [.int a0]) C (Ru_bOf_c l cf ad ev2 (S := S)) wy_Ru_bOf wl_503 rfl ⟨(Nat.le_of_ble_eq_true rfl), (Nat.le_of_ble_eq_true rfl)⟩ rfl (Nat.le_of_ble_eq_true rfl) dX6_sayYes_6 ?_
  refine gm_istore_n (lv' := [(3, .int v2), (2, .int v1), (0, .int a0), (1, .ref (ad t))]) C dX6_sayYes_9 rfl (by decide) rfl ?_
  refine gm_iload_n C dX6_sayYes_10 rfl 2 rfl ?_
  obtain ⟨v3, ev3, hf⟩ := gm_bp1_s hf
  refine gm_callSi (As := [.int a0]) C (Ru_kindOf_c l cf ad ev3 (S := S)) wy_Ru_kindOf wl_506 rfl ⟨(Nat.le_of_ble_eq_true rfl), (Nat.le_of_ble_eq_true rfl)⟩ rfl (Nat.le_of_ble_eq_true rfl) dX6_sayYes_11 ?_
  by_cases c4 : v3 = 0
  · have hf := gm_it _ c4 hf
    refine gm_tableIn C 48 dX6_sayYes_14 (by rw [c4]; decide) (by rw [c4]; decide) (by rw [c4]; rfl) (by decide) ?_
    refine gm_aload_n C dX6_sayYes_48 rfl 3 rfl ?_
    obtain ⟨v5, ev5, hf⟩ := gm_bp1_s hf
    refine gm_callVi (As := []) C (Tk_halvesApart_c l cf ad ht ev5) (gm_tk_l0 ht) (gm_tk_k0 ht) kc_8 wy_Tk_halvesApart rfl wl_509 rfl ⟨(Nat.le_of_ble_eq_true rfl), (Nat.le_of_ble_eq_true rfl)⟩ rfl (Nat.le_of_ble_eq_true rfl) dX6_sayYes_49 ?_
    refine gm_iload_n C dX6_sayYes_52 rfl 1 rfl ?_
    refine gm_icmp_gt C 60 dX6_sayYes_53 (by decide) (fun c6 => ?_) (fun c6 => ?_)
    · have hf := gm_it _ c6 hf
      refine gm_iconst (v := 0) C dX6_sayYes_60 (by decide) ?_
      exact gm_iretK C hr rfl dX6_sayYes_61 hf
    · have hf := gm_if _ c6 hf
      refine gm_iconst (v := 1) C dX6_sayYes_56 (by decide) ?_
      refine gm_goto C 61 dX6_sayYes_57 (by decide) ?_
      exact gm_iretK C hr rfl dX6_sayYes_61 hf
  · have hf := gm_if _ c4 hf
    by_cases c7 : v3 = 1
    · have hf := gm_it _ c7 hf
      refine gm_tableIn C 62 dX6_sayYes_14 (by rw [c7]; decide) (by rw [c7]; decide) (by rw [c7]; rfl) (by decide) ?_
      refine gm_aload_n C dX6_sayYes_62 rfl 3 rfl ?_
      obtain ⟨v8, ev8, hf⟩ := gm_bp1_s hf
      refine gm_callVi (As := []) C (Tk_unlikePairs_c l cf ad ht ev8) (gm_tk_l0 ht) (gm_tk_k0 ht) kc_8 wy_Tk_unlikePairs rfl wl_516 rfl ⟨(Nat.le_of_ble_eq_true rfl), (Nat.le_of_ble_eq_true rfl)⟩ rfl (Nat.le_of_ble_eq_true rfl) dX6_sayYes_63 ?_
      refine gm_iload_n C dX6_sayYes_66 rfl 1 rfl ?_
      refine gm_icmp_gt C 74 dX6_sayYes_67 (by decide) (fun c9 => ?_) (fun c9 => ?_)
      · have hf := gm_it _ c9 hf
        refine gm_iconst (v := 0) C dX6_sayYes_74 (by decide) ?_
        exact gm_iretK C hr rfl dX6_sayYes_75 hf
      · have hf := gm_if _ c9 hf
        refine gm_iconst (v := 1) C dX6_sayYes_70 (by decide) ?_
        refine gm_goto C 75 dX6_sayYes_71 (by decide) ?_
        exact gm_iretK C hr rfl dX6_sayYes_75 hf
    · have hf := gm_if _ c7 hf
      by_cases c10 : v3 = 2
      · have hf := gm_it _ c10 hf
        refine gm_tableIn C 76 dX6_sayYes_14 (by rw [c10]; decide) (by rw [c10]; decide) (by rw [c10]; rfl) (by decide) ?_
        refine gm_aload_n C dX6_sayYes_76 rfl 3 rfl ?_
        refine gm_iload_n C dX6_sayYes_77 rfl 1 rfl ?_
        obtain ⟨v11, ev11, hf⟩ := gm_bp1_s hf
        refine gm_callVi (As := [.int v1]) C (Tk_timesThere_c l cf ad ht ev11) (gm_tk_l0 ht) (gm_tk_k0 ht) kc_8 wy_Tk_timesThere rfl wl_520 rfl ⟨(Nat.le_of_ble_eq_true rfl), (Nat.le_of_ble_eq_true rfl)⟩ rfl (Nat.le_of_ble_eq_true rfl) dX6_sayYes_78 ?_
        refine gm_iload_n C dX6_sayYes_81 rfl 0 rfl ?_
        refine gm_icmp_ne C 89 dX6_sayYes_82 (by decide) (fun c12 => ?_) (fun c12 => ?_)
        · have hf := gm_if _ c12 hf
          refine gm_iconst (v := 0) C dX6_sayYes_89 (by decide) ?_
          exact gm_iretK C hr rfl dX6_sayYes_90 hf
        · have hf := gm_it _ c12 hf
          refine gm_iconst (v := 1) C dX6_sayYes_85 (by decide) ?_
          refine gm_goto C 90 dX6_sayYes_86 (by decide) ?_
          exact gm_iretK C hr rfl dX6_sayYes_90 hf
      · have hf := gm_if _ c10 hf
        by_cases c13 : v3 = 3
        · have hf := gm_it _ c13 hf
          refine gm_tableIn C 91 dX6_sayYes_14 (by rw [c13]; decide) (by rw [c13]; decide) (by rw [c13]; rfl) (by decide) ?_
          refine gm_iload_n C dX6_sayYes_91 rfl 1 rfl ?_
          refine gm_if_le C 109 dX6_sayYes_92 (by decide) (fun c14 => ?_) (fun c14 => ?_)
          · have hf := gm_it _ c14 hf
            refine gm_iconst (v := 0) C dX6_sayYes_109 (by decide) ?_
            exact gm_iretK C hr rfl dX6_sayYes_110 hf
          · have hf := gm_if _ c14 hf
            refine gm_aload_n C dX6_sayYes_95 rfl 3 rfl ?_
            refine gm_geti C (gm_tk_l0 ht) (gm_tk_k0 ht) kc_8 (k := 2) rfl (by decide) rfl wl_194 dX6_sayYes_96 ?_
            refine gm_iload_n C dX6_sayYes_99 rfl 1 rfl ?_
            obtain ⟨h15, hf⟩ := gm_iz _ hf
            refine gm_irem C dX6_sayYes_100 h15 ?_
            refine gm_iload_n C dX6_sayYes_101 rfl 0 rfl ?_
            refine gm_icmp_ne C 109 dX6_sayYes_102 (by decide) (fun c16 => ?_) (fun c16 => ?_)
            · have hf := gm_if _ c16 hf
              refine gm_iconst (v := 0) C dX6_sayYes_109 (by decide) ?_
              exact gm_iretK C hr rfl dX6_sayYes_110 hf
            · have hf := gm_it _ c16 hf
              refine gm_iconst (v := 1) C dX6_sayYes_105 (by decide) ?_
              refine gm_goto C 110 dX6_sayYes_106 (by decide) ?_
              exact gm_iretK C hr rfl dX6_sayYes_110 hf
        · have hf := gm_if _ c13 hf
          by_cases c17 : v3 = 4
          · have hf := gm_it _ c17 hf
            refine gm_tableIn C 111 dX6_sayYes_14 (by rw [c17]; decide) (by rw [c17]; decide) (by rw [c17]; rfl) (by decide) ?_
            refine gm_aload_n C dX6_sayYes_111 rfl 3 rfl ?_
            obtain ⟨v18, ev18, hf⟩ := gm_bp1_s hf
            refine gm_callVi (As := []) C (Tk_falls_c l cf ad ht ev18) (gm_tk_l0 ht) (gm_tk_k0 ht) kc_8 wy_Tk_falls rfl wl_524 rfl ⟨(Nat.le_of_ble_eq_true rfl), (Nat.le_of_ble_eq_true rfl)⟩ rfl (Nat.le_of_ble_eq_true rfl) dX6_sayYes_112 ?_
            refine gm_iload_n C dX6_sayYes_115 rfl 1 rfl ?_
            refine gm_icmp_gt C 123 dX6_sayYes_116 (by decide) (fun c19 => ?_) (fun c19 => ?_)
            · have hf := gm_it _ c19 hf
              refine gm_iconst (v := 0) C dX6_sayYes_123 (by decide) ?_
              exact gm_iretK C hr rfl dX6_sayYes_124 hf
            · have hf := gm_if _ c19 hf
              refine gm_iconst (v := 1) C dX6_sayYes_119 (by decide) ?_
              refine gm_goto C 124 dX6_sayYes_120 (by decide) ?_
              exact gm_iretK C hr rfl dX6_sayYes_124 hf
          · have hf := gm_if _ c17 hf
            have nc4 : (v3).toInt ≠ 0 := gm_nt c4
            have nc7 : (v3).toInt ≠ 1 := gm_nt c7
            have nc10 : (v3).toInt ≠ 2 := gm_nt c10
            have nc13 : (v3).toInt ≠ 3 := gm_nt c13
            have nc17 : (v3).toInt ≠ 4 := gm_nt c17
            refine gm_tableOut C 125 dX6_sayYes_14 (by omega) (by decide) ?_
            refine gm_iconst (v := 0) C dX6_sayYes_125 (by decide) ?_
            exact gm_iretK C hr rfl dX6_sayYes_126 hf
theorem dX3_fillRow_0 : decode cX3_fillRow 0 = .ok (.iconst 0, 1) := by decide +kernel
theorem dX3_fillRow_1 : decode cX3_fillRow 1 = .ok (.istore_n 2, 1) := by decide +kernel
theorem dX3_fillRow_2 : decode cX3_fillRow 2 = .ok (.iload_n 2, 1) := by decide +kernel
theorem dX3_fillRow_3 : decode cX3_fillRow 3 = .ok (.aload_n 0, 1) := by decide +kernel
theorem dX3_fillRow_4 : decode cX3_fillRow 4 = .ok (.getfield 50, 3) := by decide +kernel
theorem dX3_fillRow_7 : decode cX3_fillRow 7 = .ok (.if_icmp .ge 18, 3) := by decide +kernel
theorem dX3_fillRow_10 : decode cX3_fillRow 10 = .ok (.aload_n 0, 1) := by decide +kernel
theorem dX3_fillRow_11 : decode cX3_fillRow 11 = .ok (.getfield 11, 3) := by decide +kernel
theorem dX3_fillRow_14 : decode cX3_fillRow 14 = .ok (.iload_n 1, 1) := by decide +kernel
theorem dX3_fillRow_15 : decode cX3_fillRow 15 = .ok (.aaload, 1) := by decide +kernel
theorem dX3_fillRow_16 : decode cX3_fillRow 16 = .ok (.iload_n 2, 1) := by decide +kernel
theorem dX3_fillRow_17 : decode cX3_fillRow 17 = .ok (.lconst 0, 1) := by decide +kernel
theorem dX3_fillRow_18 : decode cX3_fillRow 18 = .ok (.lastore, 1) := by decide +kernel
theorem dX3_fillRow_19 : decode cX3_fillRow 19 = .ok (.iinc 2 1, 3) := by decide +kernel
theorem dX3_fillRow_22 : decode cX3_fillRow 22 = .ok (.goto (-20), 3) := by decide +kernel
theorem dX3_fillRow_25 : decode cX3_fillRow 25 = .ok (.iconst 0, 1) := by decide +kernel
theorem dX3_fillRow_26 : decode cX3_fillRow 26 = .ok (.istore_n 2, 1) := by decide +kernel
theorem dX3_fillRow_27 : decode cX3_fillRow 27 = .ok (.iload_n 2, 1) := by decide +kernel
theorem dX3_fillRow_28 : decode cX3_fillRow 28 = .ok (.aload_n 0, 1) := by decide +kernel
theorem dX3_fillRow_29 : decode cX3_fillRow 29 = .ok (.getfield 42, 3) := by decide +kernel
theorem dX3_fillRow_32 : decode cX3_fillRow 32 = .ok (.if_icmp .ge 57, 3) := by decide +kernel
theorem dX3_fillRow_35 : decode cX3_fillRow 35 = .ok (.aload_n 0, 1) := by decide +kernel
theorem dX3_fillRow_36 : decode cX3_fillRow 36 = .ok (.getfield 27, 3) := by decide +kernel
theorem dX3_fillRow_39 : decode cX3_fillRow 39 = .ok (.iload_n 2, 1) := by decide +kernel
theorem dX3_fillRow_40 : decode cX3_fillRow 40 = .ok (.aload_n 0, 1) := by decide +kernel
theorem dX3_fillRow_41 : decode cX3_fillRow 41 = .ok (.getfield 31, 3) := by decide +kernel
theorem dX3_fillRow_44 : decode cX3_fillRow 44 = .ok (.invokevirtual 81, 3) := by decide +kernel
theorem dX3_fillRow_47 : decode cX3_fillRow 47 = .ok (.aload_n 0, 1) := by decide +kernel
theorem dX3_fillRow_48 : decode cX3_fillRow 48 = .ok (.getfield 16, 3) := by decide +kernel
theorem dX3_fillRow_51 : decode cX3_fillRow 51 = .ok (.iload_n 1, 1) := by decide +kernel
theorem dX3_fillRow_52 : decode cX3_fillRow 52 = .ok (.iaload, 1) := by decide +kernel
theorem dX3_fillRow_53 : decode cX3_fillRow 53 = .ok (.aload_n 0, 1) := by decide +kernel
theorem dX3_fillRow_54 : decode cX3_fillRow 54 = .ok (.getfield 27, 3) := by decide +kernel
theorem dX3_fillRow_57 : decode cX3_fillRow 57 = .ok (.invokestatic 85, 3) := by decide +kernel
theorem dX3_fillRow_60 : decode cX3_fillRow 60 = .ok (.ifCond .eq 23, 3) := by decide +kernel
theorem dX3_fillRow_63 : decode cX3_fillRow 63 = .ok (.aload_n 0, 1) := by decide +kernel
theorem dX3_fillRow_64 : decode cX3_fillRow 64 = .ok (.getfield 11, 3) := by decide +kernel
theorem dX3_fillRow_67 : decode cX3_fillRow 67 = .ok (.iload_n 1, 1) := by decide +kernel
theorem dX3_fillRow_68 : decode cX3_fillRow 68 = .ok (.aaload, 1) := by decide +kernel
theorem dX3_fillRow_69 : decode cX3_fillRow 69 = .ok (.iload_n 2, 1) := by decide +kernel
theorem dX3_fillRow_70 : decode cX3_fillRow 70 = .ok (.bipush 6, 2) := by decide +kernel
theorem dX3_fillRow_72 : decode cX3_fillRow 72 = .ok (.ishr, 1) := by decide +kernel
theorem dX3_fillRow_73 : decode cX3_fillRow 73 = .ok (.dup2, 1) := by decide +kernel
theorem dX3_fillRow_74 : decode cX3_fillRow 74 = .ok (.laload, 1) := by decide +kernel
theorem dX3_fillRow_75 : decode cX3_fillRow 75 = .ok (.lconst 1, 1) := by decide +kernel
theorem dX3_fillRow_76 : decode cX3_fillRow 76 = .ok (.iload_n 2, 1) := by decide +kernel
theorem dX3_fillRow_77 : decode cX3_fillRow 77 = .ok (.bipush 63, 2) := by decide +kernel
theorem dX3_fillRow_79 : decode cX3_fillRow 79 = .ok (.iand, 1) := by decide +kernel
theorem dX3_fillRow_80 : decode cX3_fillRow 80 = .ok (.lshl, 1) := by decide +kernel
theorem dX3_fillRow_81 : decode cX3_fillRow 81 = .ok (.lor, 1) := by decide +kernel
theorem dX3_fillRow_82 : decode cX3_fillRow 82 = .ok (.lastore, 1) := by decide +kernel
theorem dX3_fillRow_83 : decode cX3_fillRow 83 = .ok (.iinc 2 1, 3) := by decide +kernel
theorem dX3_fillRow_86 : decode cX3_fillRow 86 = .ok (.goto (-59), 3) := by decide +kernel
theorem dX3_fillRow_89 : decode cX3_fillRow 89 = .ok (.return_, 1) := by decide +kernel
def Tb_fillRow_L2_b (a0 : Int32) (rec : Int32 → gm_M → Option (gm_M)) (y1 : Int32) (S2 : gm_M) : Option (gm_M) :=
  if S2.1 12 6 ≤ y1 then (
    some (S2)
  ) else (
    gm_ck (a0) 4 <|
    gm_ck (y1) 157 <|
    gm_lt (α := gm_M) (gm_uj S2 (14 + 1 * a0.toNatClampNeg) (y1.toNatClampNeg) 0) fun S8 =>
    gm_lt (α := Int32) (y1 + 1) fun x9 =>
    rec x9 S8
  )
def Tb_fillRow_L2 (a0 : Int32) : Nat → Int32 → gm_M → Option (gm_M)
  | 0 => fun _ _ => none
  | n + 1 => Tb_fillRow_L2_b a0 (Tb_fillRow_L2 a0 n)
def Tb_fillRow_L27_b (fl : Nat) (a0 : Int32) (rec : Int32 → gm_M → Option (gm_M)) (y10 : Int32) (S11 : gm_M) : Option (gm_M) :=
  if S11.1 12 5 ≤ y10 then (
    some (S11)
  ) else (
    gm_bp1 (Tk_spell fl 20 y10 (S11.1 12 4) S11) fun S14 =>
    gm_ck (a0) 4 <|
    gm_bp1 (Ru_sayYes fl 20 (S14.1 18 a0.toNatClampNeg) S14) fun v16 =>
    gm_bp1 (show Option (gm_M) from
      if v16 = 0 then (
        some (S14)
      ) else (
        gm_ck (a0) 4 <|
        gm_ck (y10 >>> (6 &&& 31)) 157 <|
        gm_ck (y10 >>> (6 &&& 31)) 157 <|
        gm_lt (α := gm_M) (gm_uj S14 (14 + 1 * a0.toNatClampNeg) ((y10 >>> (6 &&& 31)).toNatClampNeg) ((S14.2 (14 + 1 * a0.toNatClampNeg) (y10 >>> (6 &&& 31)).toNatClampNeg) ||| (1 <<< ((y10 &&& 63 : Int32).toInt64 &&& 63)))) fun S24 =>
        some (S24)
      )
    ) fun S17 =>
    gm_lt (α := Int32) (y10 + 1) fun x18 =>
    rec x18 S17
  )
def Tb_fillRow_L27 (fl : Nat) (a0 : Int32) : Nat → Int32 → gm_M → Option (gm_M)
  | 0 => fun _ _ => none
  | n + 1 => Tb_fillRow_L27_b fl a0 (Tb_fillRow_L27 fl a0 n)
def Tb_fillRow (fl : Nat) (a0 : Int32) (S : gm_M) : Option gm_M :=
  gm_bp1 (Tb_fillRow_L2 a0 fl 0 S) fun S3 =>
  gm_bp1 (Tb_fillRow_L27 fl a0 fl 0 S3) fun S12 =>
  some S12
set_option maxHeartbeats 4000000 in
set_option maxRecDepth 100000 in
theorem Tb_fillRow_c (l : Launch) (cf : gm_C) (ad : Nat → Nat) {fl : Nat}   {a0 : Int32} {S : gm_M}  {S'  : gm_M} (hf : Tb_fillRow fl a0 S = some S') : gm_Met l yX3_fillRow cX3_fillRow 3 none 3 58 cf ad gm_sC 106 [.ref (ad 12), .int a0] S none S' := by
  refine gm_met (by decide +kernel) (Nat.le_of_ble_eq_true rfl) ?_
  intro p e s m args below meth c C hr
  have C : gm_F p s m args meth c cf ad 106 cX3_fillRow 3 RX3 := C
  refine gm_lve (lv' := [(0, .ref (ad 12)), (1, .int a0)]) rfl ?_
  unfold Tb_fillRow at hf
  refine gm_iconst (v := 0) C dX3_fillRow_0 (by decide) ?_
  refine gm_istore_n (lv' := [(2, .int 0), (0, .ref (ad 12)), (1, .int a0)]) C dX3_fillRow_1 rfl (by decide) rfl ?_
  have L2 : ∀ (n : Nat) (y1 : Int32) (S2 : gm_M) (S3 : gm_M), Tb_fillRow_L2 a0 n y1 S2 = some (S3) → gm_G p l e { frames := 3, cells := 0, slots := 0, locals := 58 } s m args below meth c (MQ below (gm_Q cf ad gm_sC 106 none S') args s 0 0 (gm_A ad 106)) cf ad gm_sC 106 3 S3 25 [(0, .ref (ad 12)), (1, .int a0)] [] → gm_G p l e { frames := 3, cells := 0, slots := 0, locals := 58 } s m args below meth c (MQ below (gm_Q cf ad gm_sC 106 none S') args s 0 0 (gm_A ad 106)) cf ad gm_sC 106 3 S2 2 [(0, .ref (ad 12)), (1, .int a0), (2, .int y1)] [] := by
    intro n
    induction n with
    | zero => intro y1 S2 S3 hf K; cases (show (none : Option _) = some _ from hf)
    | succ n ih =>
      intro y1 S2 S3 hf K
      have hf : Tb_fillRow_L2_b a0 (Tb_fillRow_L2 a0 n) y1 S2 = some (S3) := hf
      unfold Tb_fillRow_L2_b at hf
      refine gm_iload_n C dX3_fillRow_2 rfl 2 rfl ?_
      refine gm_aload_n C dX3_fillRow_3 rfl 0 rfl ?_
      refine gm_geti C (Nat.le_of_ble_eq_true rfl) rfl kc_3 (k := 6) rfl (by decide) rfl wl_209 dX3_fillRow_4 ?_
      refine gm_icmp_ge C 25 dX3_fillRow_7 (by decide) (fun c4 => ?_) (fun c4 => ?_)
      · have hf := gm_it _ c4 hf
        cases hf
        exact gm_lvp [0, 1] rfl K
      · have hf := gm_if _ c4 hf
        refine gm_aload_n C dX3_fillRow_10 rfl 0 rfl ?_
        refine gm_getr (j := 1) (u := 13) C (Nat.le_of_ble_eq_true rfl) rfl kc_3 (k := 0) rfl (by decide) rfl rfl wl_203 dX3_fillRow_11 ?_
        refine gm_iload_n C dX3_fillRow_14 rfl 1 rfl ?_
        obtain ⟨h5, hf⟩ := gm_ck_s hf
        refine gm_aald (k := 4) C (Nat.le_of_ble_eq_true rfl) rfl (by decide) rfl rfl h5 dX3_fillRow_15 ?_
        have h6 := gm_of_rw h5
        refine gm_iload_n C dX3_fillRow_16 rfl 2 rfl ?_
        refine gm_lconst (v := 0) C dX3_fillRow_17 (by decide) ?_
        obtain ⟨h7, hf⟩ := gm_ck_s hf
        refine gm_last C (gm_rw_l0 h6) (gm_rw_k0 h6) (gm_rw_n0 h6) h7 dX3_fillRow_18 ?_
        obtain ⟨S8, eS8, hf⟩ := gm_lt_s hf
        refine gm_topm eS8 ?_
        obtain ⟨x9, ex9, hf⟩ := gm_lt_s hf
        refine gm_iinc (v := x9) (lv' := [(2, .int x9), (0, .ref (ad 12)), (1, .int a0)]) (j := 2) C dX3_fillRow_19 rfl (by rw [ex9]; rfl) (by decide) rfl ?_
        refine gm_goto C 2 dX3_fillRow_22 (by decide) ?_
        exact gm_lvp [1, 2, 0] rfl (ih _ _ _ hf K)
  obtain ⟨S3, hx, hf⟩ := gm_bp1_s hf
  refine gm_lvp [1, 2, 0] rfl (L2 fl _ _ _ hx ?_)
  refine gm_iconst (v := 0) C dX3_fillRow_25 (by decide) ?_
  refine gm_istore_n (lv' := [(2, .int 0), (0, .ref (ad 12)), (1, .int a0)]) C dX3_fillRow_26 rfl (by decide) rfl ?_
  have L27 : ∀ (n : Nat) (y10 : Int32) (S11 : gm_M) (S12 : gm_M), Tb_fillRow_L27 fl a0 n y10 S11 = some (S12) → gm_G p l e { frames := 3, cells := 0, slots := 0, locals := 58 } s m args below meth c (MQ below (gm_Q cf ad gm_sC 106 none S') args s 0 0 (gm_A ad 106)) cf ad gm_sC 106 3 S12 89 [] [] → gm_G p l e { frames := 3, cells := 0, slots := 0, locals := 58 } s m args below meth c (MQ below (gm_Q cf ad gm_sC 106 none S') args s 0 0 (gm_A ad 106)) cf ad gm_sC 106 3 S11 27 [(0, .ref (ad 12)), (1, .int a0), (2, .int y10)] [] := by
    intro n
    induction n with
    | zero => intro y10 S11 S12 hf K; cases (show (none : Option _) = some _ from hf)
    | succ n ih =>
      intro y10 S11 S12 hf K
      have hf : Tb_fillRow_L27_b fl a0 (Tb_fillRow_L27 fl a0 n) y10 S11 = some (S12) := hf
      unfold Tb_fillRow_L27_b at hf
      refine gm_iload_n C dX3_fillRow_27 rfl 2 rfl ?_
      refine gm_aload_n C dX3_fillRow_28 rfl 0 rfl ?_
      refine gm_geti C (Nat.le_of_ble_eq_true rfl) rfl kc_3 (k := 5) rfl (by decide) rfl wl_208 dX3_fillRow_29 ?_
      refine gm_icmp_ge C 89 dX3_fillRow_32 (by decide) (fun c13 => ?_) (fun c13 => ?_)
      · have hf := gm_it _ c13 hf
        cases hf
        exact gm_lvp [] rfl K
      · have hf := gm_if _ c13 hf
        refine gm_aload_n C dX3_fillRow_35 rfl 0 rfl ?_
        refine gm_getr (j := 8) (u := 20) C (Nat.le_of_ble_eq_true rfl) rfl kc_3 (k := 3) rfl (by decide) rfl rfl wl_206 dX3_fillRow_36 ?_
        refine gm_iload_n C dX3_fillRow_39 rfl 2 rfl ?_
        refine gm_aload_n C dX3_fillRow_40 rfl 0 rfl ?_
        refine gm_geti C (Nat.le_of_ble_eq_true rfl) rfl kc_3 (k := 4) rfl (by decide) rfl wl_207 dX3_fillRow_41 ?_
        obtain ⟨S14, eS14, hf⟩ := gm_bp1_s hf
        refine gm_callVv (As := [.int y10, .int (S11.1 12 4)]) C (Tk_spell_c l cf ad gm_tk_20 eS14) (Nat.le_of_ble_eq_true rfl) rfl kc_8 wy_Tk_spell rfl wl_492 rfl ⟨(Nat.le_of_ble_eq_true rfl), (Nat.le_of_ble_eq_true rfl)⟩ rfl (Nat.le_of_ble_eq_true rfl) dX3_fillRow_44 ?_
        refine gm_aload_n C dX3_fillRow_47 rfl 0 rfl ?_
        refine gm_getr (j := 6) (u := 18) C (Nat.le_of_ble_eq_true rfl) rfl kc_3 (k := 1) rfl (by decide) rfl rfl wl_204 dX3_fillRow_48 ?_
        refine gm_iload_n C dX3_fillRow_51 rfl 1 rfl ?_
        obtain ⟨h15, hf⟩ := gm_ck_s hf
        refine gm_iald C (Nat.le_of_ble_eq_true rfl) rfl rfl h15 dX3_fillRow_52 ?_
        refine gm_aload_n C dX3_fillRow_53 rfl 0 rfl ?_
        refine gm_getr (j := 8) (u := 20) C (Nat.le_of_ble_eq_true rfl) rfl kc_3 (k := 3) rfl (by decide) rfl rfl wl_206 dX3_fillRow_54 ?_
        obtain ⟨v16, ev16, hf⟩ := gm_bp1_s hf
        refine gm_callSi (As := [.int (S14.1 18 a0.toNatClampNeg), .ref (ad 20)]) C (Ru_sayYes_c l cf ad gm_tk_20 ev16) wy_Ru_sayYes wl_497 rfl ⟨(Nat.le_of_ble_eq_true rfl), (Nat.le_of_ble_eq_true rfl)⟩ rfl (Nat.le_of_ble_eq_true rfl) dX3_fillRow_57 ?_
        obtain ⟨S17, hx, hf⟩ := gm_bp1_s hf
        have key : gm_G p l e { frames := 3, cells := 0, slots := 0, locals := 58 } s m args below meth c (MQ below (gm_Q cf ad gm_sC 106 none S') args s 0 0 (gm_A ad 106)) cf ad gm_sC 106 3 S17 83 [(0, .ref (ad 12)), (1, .int a0), (2, .int y10)] [] := by
          obtain ⟨x18, ex18, hf⟩ := gm_lt_s hf
          refine gm_iinc (v := x18) (lv' := [(2, .int x18), (0, .ref (ad 12)), (1, .int a0)]) (j := 2) C dX3_fillRow_83 rfl (by rw [ex18]; rfl) (by decide) rfl ?_
          refine gm_goto C 27 dX3_fillRow_86 (by decide) ?_
          exact gm_lvp [1, 2, 0] rfl (ih _ _ _ hf K)
        have hf := hx
        refine gm_if_eq C 83 dX3_fillRow_60 (by decide) (fun c19 => ?_) (fun c19 => ?_)
        · have hf := gm_it _ c19 hf
          cases hf
          exact gm_lvp [0, 1, 2] rfl key
        · have hf := gm_if _ c19 hf
          refine gm_aload_n C dX3_fillRow_63 rfl 0 rfl ?_
          refine gm_getr (j := 1) (u := 13) C (Nat.le_of_ble_eq_true rfl) rfl kc_3 (k := 0) rfl (by decide) rfl rfl wl_203 dX3_fillRow_64 ?_
          refine gm_iload_n C dX3_fillRow_67 rfl 1 rfl ?_
          obtain ⟨h20, hf⟩ := gm_ck_s hf
          refine gm_aald (k := 4) C (Nat.le_of_ble_eq_true rfl) rfl (by decide) rfl rfl h20 dX3_fillRow_68 ?_
          have h21 := gm_of_rw h20
          refine gm_iload_n C dX3_fillRow_69 rfl 2 rfl ?_
          refine gm_bipush (v := 6) C dX3_fillRow_70 (by decide) ?_
          refine gm_ishr C dX3_fillRow_72 ?_
          refine gm_dup2_11 C dX3_fillRow_73 rfl rfl ?_
          obtain ⟨h22, hf⟩ := gm_ck_s hf
          refine gm_lald C (gm_rw_l0 h21) (gm_rw_k0 h21) (gm_rw_n0 h21) h22 dX3_fillRow_74 ?_
          refine gm_lconst (v := 1) C dX3_fillRow_75 (by decide) ?_
          refine gm_iload_n C dX3_fillRow_76 rfl 2 rfl ?_
          refine gm_bipush (v := 63) C dX3_fillRow_77 (by decide) ?_
          refine gm_iand C dX3_fillRow_79 ?_
          refine gm_lshl C dX3_fillRow_80 rfl ?_
          refine gm_lor C dX3_fillRow_81 ?_
          obtain ⟨h23, hf⟩ := gm_ck_s hf
          refine gm_last C (gm_rw_l0 h21) (gm_rw_k0 h21) (gm_rw_n0 h21) h23 dX3_fillRow_82 ?_
          obtain ⟨S24, eS24, hf⟩ := gm_lt_s hf
          refine gm_topm eS24 ?_
          cases hf
          exact gm_lvp [0, 1, 2] rfl key
  obtain ⟨S12, hx, hf⟩ := gm_bp1_s hf
  refine gm_lvp [1, 2, 0] rfl (L27 fl _ _ _ hx ?_)
  exact gm_vret C hr dX3_fillRow_89 hf
theorem dX3_joinedWord_0 : decode cX3_joinedWord 0 = .ok (.ldc2_w 91, 3) := by decide +kernel
theorem dX3_joinedWord_3 : decode cX3_joinedWord 3 = .ok (.lstore_n 3, 1) := by decide +kernel
theorem dX3_joinedWord_4 : decode cX3_joinedWord 4 = .ok (.lconst 0, 1) := by decide +kernel
theorem dX3_joinedWord_5 : decode cX3_joinedWord 5 = .ok (.lstore 5, 2) := by decide +kernel
theorem dX3_joinedWord_7 : decode cX3_joinedWord 7 = .ok (.iconst 0, 1) := by decide +kernel
theorem dX3_joinedWord_8 : decode cX3_joinedWord 8 = .ok (.istore 7, 2) := by decide +kernel
theorem dX3_joinedWord_10 : decode cX3_joinedWord 10 = .ok (.iconst 0, 1) := by decide +kernel
theorem dX3_joinedWord_11 : decode cX3_joinedWord 11 = .ok (.istore 8, 2) := by decide +kernel
theorem dX3_joinedWord_13 : decode cX3_joinedWord 13 = .ok (.iload 8, 2) := by decide +kernel
theorem dX3_joinedWord_15 : decode cX3_joinedWord 15 = .ok (.aload_n 0, 1) := by decide +kernel
theorem dX3_joinedWord_16 : decode cX3_joinedWord 16 = .ok (.getfield 56, 3) := by decide +kernel
theorem dX3_joinedWord_19 : decode cX3_joinedWord 19 = .ok (.if_icmp .ge 44, 3) := by decide +kernel
theorem dX3_joinedWord_22 : decode cX3_joinedWord 22 = .ok (.iload 8, 2) := by decide +kernel
theorem dX3_joinedWord_24 : decode cX3_joinedWord 24 = .ok (.iload_n 2, 1) := by decide +kernel
theorem dX3_joinedWord_25 : decode cX3_joinedWord 25 = .ok (.if_icmp .eq 32, 3) := by decide +kernel
theorem dX3_joinedWord_28 : decode cX3_joinedWord 28 = .ok (.lload_n 3, 1) := by decide +kernel
theorem dX3_joinedWord_29 : decode cX3_joinedWord 29 = .ok (.aload_n 0, 1) := by decide +kernel
theorem dX3_joinedWord_30 : decode cX3_joinedWord 30 = .ok (.getfield 11, 3) := by decide +kernel
theorem dX3_joinedWord_33 : decode cX3_joinedWord 33 = .ok (.iload 8, 2) := by decide +kernel
theorem dX3_joinedWord_35 : decode cX3_joinedWord 35 = .ok (.aaload, 1) := by decide +kernel
theorem dX3_joinedWord_36 : decode cX3_joinedWord 36 = .ok (.iload_n 1, 1) := by decide +kernel
theorem dX3_joinedWord_37 : decode cX3_joinedWord 37 = .ok (.laload, 1) := by decide +kernel
theorem dX3_joinedWord_38 : decode cX3_joinedWord 38 = .ok (.land, 1) := by decide +kernel
theorem dX3_joinedWord_39 : decode cX3_joinedWord 39 = .ok (.lstore_n 3, 1) := by decide +kernel
theorem dX3_joinedWord_40 : decode cX3_joinedWord 40 = .ok (.lload 5, 2) := by decide +kernel
theorem dX3_joinedWord_42 : decode cX3_joinedWord 42 = .ok (.aload_n 0, 1) := by decide +kernel
theorem dX3_joinedWord_43 : decode cX3_joinedWord 43 = .ok (.getfield 11, 3) := by decide +kernel
theorem dX3_joinedWord_46 : decode cX3_joinedWord 46 = .ok (.iload 8, 2) := by decide +kernel
theorem dX3_joinedWord_48 : decode cX3_joinedWord 48 = .ok (.aaload, 1) := by decide +kernel
theorem dX3_joinedWord_49 : decode cX3_joinedWord 49 = .ok (.iload_n 1, 1) := by decide +kernel
theorem dX3_joinedWord_50 : decode cX3_joinedWord 50 = .ok (.laload, 1) := by decide +kernel
theorem dX3_joinedWord_51 : decode cX3_joinedWord 51 = .ok (.lor, 1) := by decide +kernel
theorem dX3_joinedWord_52 : decode cX3_joinedWord 52 = .ok (.lstore 5, 2) := by decide +kernel
theorem dX3_joinedWord_54 : decode cX3_joinedWord 54 = .ok (.iconst 1, 1) := by decide +kernel
theorem dX3_joinedWord_55 : decode cX3_joinedWord 55 = .ok (.istore 7, 2) := by decide +kernel
theorem dX3_joinedWord_57 : decode cX3_joinedWord 57 = .ok (.iinc 8 1, 3) := by decide +kernel
theorem dX3_joinedWord_60 : decode cX3_joinedWord 60 = .ok (.goto (-47), 3) := by decide +kernel
theorem dX3_joinedWord_63 : decode cX3_joinedWord 63 = .ok (.iload 7, 2) := by decide +kernel
theorem dX3_joinedWord_65 : decode cX3_joinedWord 65 = .ok (.ifCond .ne 5, 3) := by decide +kernel
theorem dX3_joinedWord_68 : decode cX3_joinedWord 68 = .ok (.lconst 0, 1) := by decide +kernel
theorem dX3_joinedWord_69 : decode cX3_joinedWord 69 = .ok (.lreturn, 1) := by decide +kernel
theorem dX3_joinedWord_70 : decode cX3_joinedWord 70 = .ok (.aload_n 0, 1) := by decide +kernel
theorem dX3_joinedWord_71 : decode cX3_joinedWord 71 = .ok (.getfield 67, 3) := by decide +kernel
theorem dX3_joinedWord_74 : decode cX3_joinedWord 74 = .ok (.iconst 1, 1) := by decide +kernel
theorem dX3_joinedWord_75 : decode cX3_joinedWord 75 = .ok (.if_icmp .ne 8, 3) := by decide +kernel
theorem dX3_joinedWord_78 : decode cX3_joinedWord 78 = .ok (.lload 5, 2) := by decide +kernel
theorem dX3_joinedWord_80 : decode cX3_joinedWord 80 = .ok (.goto 4, 3) := by decide +kernel
theorem dX3_joinedWord_83 : decode cX3_joinedWord 83 = .ok (.lload_n 3, 1) := by decide +kernel
theorem dX3_joinedWord_84 : decode cX3_joinedWord 84 = .ok (.lreturn, 1) := by decide +kernel
def Tb_joinedWord_L13_b (a0 : Int32) (a1 : Int32) (S : gm_M) (rec : Int64 → Int64 → Int32 → Int32 → Option (Int64 × Int64 × Int32)) (y1 : Int64) (y2 : Int64) (y3 : Int32) (y4 : Int32) : Option (Int64 × Int64 × Int32) :=
  if S.1 12 7 ≤ y4 then (
    some (y1, y2, y3)
  ) else (
    gm_bp3 (show Option (Int64 × Int64 × Int32) from
      if y4 = a1 then (
        some (y1, y2, y3)
      ) else (
        gm_ck (y4) 4 <|
        gm_ck (a0) 157 <|
        gm_lt (α := Int64) (y1 &&& (S.2 (14 + 1 * y4.toNatClampNeg) a0.toNatClampNeg)) fun x17 =>
        gm_ck (y4) 4 <|
        gm_ck (a0) 157 <|
        gm_lt (α := Int64) (y2 ||| (S.2 (14 + 1 * y4.toNatClampNeg) a0.toNatClampNeg)) fun x21 =>
        some (x17, x21, 1)
      )
    ) fun x9 x10 x11 =>
    gm_lt (α := Int32) (y4 + 1) fun x12 =>
    rec x9 x10 x11 x12
  )
def Tb_joinedWord_L13 (a0 : Int32) (a1 : Int32) (S : gm_M) : Nat → Int64 → Int64 → Int32 → Int32 → Option (Int64 × Int64 × Int32)
  | 0 => fun _ _ _ _ => none
  | n + 1 => Tb_joinedWord_L13_b a0 a1 S (Tb_joinedWord_L13 a0 a1 S n)
def Tb_joinedWord (fl : Nat) (a0 : Int32) (a1 : Int32) (S : gm_M) : Option Int64 :=
  gm_bp3 (Tb_joinedWord_L13 a0 a1 S fl (-1) 0 0 0) fun z5 z6 z7 =>
  if z7 = 0 then (
    some (0)
  ) else (
    if S.1 12 8 = 1 then (
      some (z6)
    ) else (
      some (z5)
    )
  )
set_option maxHeartbeats 4000000 in
set_option maxRecDepth 100000 in
theorem Tb_joinedWord_c (l : Launch) (cf : gm_C) (ad : Nat → Nat) {fl : Nat}   {a0 : Int32} {a1 : Int32} {S : gm_M} {r : Int64}  (hf : Tb_joinedWord fl a0 a1 S = some r) : gm_Met l yX3_joinedWord cX3_joinedWord 9 (some .long) 0 0 cf ad gm_sC 106 [.ref (ad 12), .int a0, .int a1] S (some (.long r)) S := by
  refine gm_met (by decide +kernel) (Nat.le_of_ble_eq_true rfl) ?_
  intro p e s m args below meth c C hr
  have C : gm_F p s m args meth c cf ad 106 cX3_joinedWord 9 RX3 := C
  refine gm_lve (lv' := [(0, .ref (ad 12)), (1, .int a0), (2, .int a1)]) rfl ?_
  unfold Tb_joinedWord at hf
  refine gm_ldc2 (v := (-1)) C wl_532 dX3_joinedWord_0 ?_
  refine gm_lstore_n (lv' := [(3, .long (-1)), (0, .ref (ad 12)), (1, .int a0), (2, .int a1)]) C dX3_joinedWord_3 rfl (by decide) rfl ?_
  refine gm_lconst (v := 0) C dX3_joinedWord_4 (by decide) ?_
  refine gm_lstore (lv' := [(5, .long 0), (3, .long (-1)), (0, .ref (ad 12)), (1, .int a0), (2, .int a1)]) C dX3_joinedWord_5 (by decide) rfl ?_
  refine gm_iconst (v := 0) C dX3_joinedWord_7 (by decide) ?_
  refine gm_istore (lv' := [(7, .int 0), (5, .long 0), (3, .long (-1)), (0, .ref (ad 12)), (1, .int a0), (2, .int a1)]) C dX3_joinedWord_8 (by decide) rfl ?_
  refine gm_iconst (v := 0) C dX3_joinedWord_10 (by decide) ?_
  refine gm_istore (lv' := [(8, .int 0), (7, .int 0), (5, .long 0), (3, .long (-1)), (0, .ref (ad 12)), (1, .int a0), (2, .int a1)]) C dX3_joinedWord_11 (by decide) rfl ?_
  have L13 : ∀ (n : Nat) (y1 : Int64) (y2 : Int64) (y3 : Int32) (y4 : Int32) (z5 : Int64) (z6 : Int64) (z7 : Int32), Tb_joinedWord_L13 a0 a1 S n y1 y2 y3 y4 = some (z5, z6, z7) → gm_G p l e { frames := 0, cells := 0, slots := 0, locals := 0 } s m args below meth c (MQ below (gm_Q cf ad gm_sC 106 (some (.long r)) S) args s 0 0 (gm_A ad 106)) cf ad gm_sC 106 9 S 63 [(0, .ref (ad 12)), (3, .long z5), (5, .long z6), (7, .int z7)] [] → gm_G p l e { frames := 0, cells := 0, slots := 0, locals := 0 } s m args below meth c (MQ below (gm_Q cf ad gm_sC 106 (some (.long r)) S) args s 0 0 (gm_A ad 106)) cf ad gm_sC 106 9 S 13 [(0, .ref (ad 12)), (1, .int a0), (2, .int a1), (3, .long y1), (5, .long y2), (7, .int y3), (8, .int y4)] [] := by
    intro n
    induction n with
    | zero => intro y1 y2 y3 y4 z5 z6 z7 hf K; cases (show (none : Option _) = some _ from hf)
    | succ n ih =>
      intro y1 y2 y3 y4 z5 z6 z7 hf K
      have hf : Tb_joinedWord_L13_b a0 a1 S (Tb_joinedWord_L13 a0 a1 S n) y1 y2 y3 y4 = some (z5, z6, z7) := hf
      unfold Tb_joinedWord_L13_b at hf
      refine gm_iload C dX3_joinedWord_13 6 rfl ?_
      refine gm_aload_n C dX3_joinedWord_15 rfl 0 rfl ?_
      refine gm_geti C (Nat.le_of_ble_eq_true rfl) rfl kc_3 (k := 7) rfl (by decide) rfl wl_210 dX3_joinedWord_16 ?_
      refine gm_icmp_ge C 63 dX3_joinedWord_19 (by decide) (fun c8 => ?_) (fun c8 => ?_)
      · have hf := gm_it _ c8 hf
        cases hf
        exact gm_lvp [0, 3, 4, 5] rfl K
      · have hf := gm_if _ c8 hf
        refine gm_iload C dX3_joinedWord_22 6 rfl ?_
        refine gm_iload_n C dX3_joinedWord_24 rfl 2 rfl ?_
        obtain ⟨x9, x10, x11, hx, hf⟩ := gm_bp3_s hf
        have key : gm_G p l e { frames := 0, cells := 0, slots := 0, locals := 0 } s m args below meth c (MQ below (gm_Q cf ad gm_sC 106 (some (.long r)) S) args s 0 0 (gm_A ad 106)) cf ad gm_sC 106 9 S 57 [(0, .ref (ad 12)), (1, .int a0), (2, .int a1), (3, .long x9), (5, .long x10), (7, .int x11), (8, .int y4)] [] := by
          obtain ⟨x12, ex12, hf⟩ := gm_lt_s hf
          refine gm_iinc (v := x12) (lv' := [(8, .int x12), (0, .ref (ad 12)), (1, .int a0), (2, .int a1), (3, .long x9), (5, .long x10), (7, .int x11)]) (j := 6) C dX3_joinedWord_57 rfl (by rw [ex12]; rfl) (by decide) rfl ?_
          refine gm_goto C 13 dX3_joinedWord_60 (by decide) ?_
          exact gm_lvp [1, 2, 3, 4, 5, 6, 0] rfl (ih _ _ _ _ _ _ _ hf K)
        have hf := hx
        refine gm_icmp_eq C 57 dX3_joinedWord_25 (by decide) (fun c13 => ?_) (fun c13 => ?_)
        · have hf := gm_it _ c13 hf
          cases hf
          exact gm_lvp [0, 1, 2, 3, 4, 5, 6] rfl key
        · have hf := gm_if _ c13 hf
          refine gm_lload_n C dX3_joinedWord_28 rfl 3 rfl ?_
          refine gm_aload_n C dX3_joinedWord_29 rfl 0 rfl ?_
          refine gm_getr (j := 1) (u := 13) C (Nat.le_of_ble_eq_true rfl) rfl kc_3 (k := 0) rfl (by decide) rfl rfl wl_203 dX3_joinedWord_30 ?_
          refine gm_iload C dX3_joinedWord_33 6 rfl ?_
          obtain ⟨h14, hf⟩ := gm_ck_s hf
          refine gm_aald (k := 4) C (Nat.le_of_ble_eq_true rfl) rfl (by decide) rfl rfl h14 dX3_joinedWord_35 ?_
          have h15 := gm_of_rw h14
          refine gm_iload_n C dX3_joinedWord_36 rfl 1 rfl ?_
          obtain ⟨h16, hf⟩ := gm_ck_s hf
          refine gm_lald C (gm_rw_l0 h15) (gm_rw_k0 h15) (gm_rw_n0 h15) h16 dX3_joinedWord_37 ?_
          refine gm_land C dX3_joinedWord_38 ?_
          obtain ⟨x17, ex17, hf⟩ := gm_lt_s hf
          refine gm_topl ex17 ?_
          refine gm_lstore_n (lv' := [(3, .long x17), (0, .ref (ad 12)), (1, .int a0), (2, .int a1), (5, .long y2), (7, .int y3), (8, .int y4)]) C dX3_joinedWord_39 rfl (by decide) rfl ?_
          refine gm_lload C dX3_joinedWord_40 4 rfl ?_
          refine gm_aload_n C dX3_joinedWord_42 rfl 1 rfl ?_
          refine gm_getr (j := 1) (u := 13) C (Nat.le_of_ble_eq_true rfl) rfl kc_3 (k := 0) rfl (by decide) rfl rfl wl_203 dX3_joinedWord_43 ?_
          refine gm_iload C dX3_joinedWord_46 6 rfl ?_
          obtain ⟨h18, hf⟩ := gm_ck_s hf
          refine gm_aald (k := 4) C (Nat.le_of_ble_eq_true rfl) rfl (by decide) rfl rfl h18 dX3_joinedWord_48 ?_
          have h19 := gm_of_rw h18
          refine gm_iload_n C dX3_joinedWord_49 rfl 2 rfl ?_
          obtain ⟨h20, hf⟩ := gm_ck_s hf
          refine gm_lald C (gm_rw_l0 h19) (gm_rw_k0 h19) (gm_rw_n0 h19) h20 dX3_joinedWord_50 ?_
          refine gm_lor C dX3_joinedWord_51 ?_
          obtain ⟨x21, ex21, hf⟩ := gm_lt_s hf
          refine gm_topl ex21 ?_
          refine gm_lstore (lv' := [(5, .long x21), (3, .long x17), (0, .ref (ad 12)), (1, .int a0), (2, .int a1), (7, .int y3), (8, .int y4)]) C dX3_joinedWord_52 (by decide) rfl ?_
          refine gm_iconst (v := 1) C dX3_joinedWord_54 (by decide) ?_
          refine gm_istore (lv' := [(7, .int 1), (5, .long x21), (3, .long x17), (0, .ref (ad 12)), (1, .int a0), (2, .int a1), (8, .int y4)]) C dX3_joinedWord_55 (by decide) rfl ?_
          cases hf
          exact gm_lvp [3, 4, 5, 2, 1, 0, 6] rfl key
  obtain ⟨z5, z6, z7, hx, hf⟩ := gm_bp3_s hf
  refine gm_lvp [4, 5, 6, 3, 2, 1, 0] rfl (L13 fl _ _ _ _ _ _ _ hx ?_)
  refine gm_iload C dX3_joinedWord_63 3 rfl ?_
  refine gm_if_ne C 70 dX3_joinedWord_65 (by decide) (fun c22 => ?_) (fun c22 => ?_)
  · have hf := gm_if _ c22 hf
    refine gm_aload_n C dX3_joinedWord_70 rfl 0 rfl ?_
    refine gm_geti C (Nat.le_of_ble_eq_true rfl) rfl kc_3 (k := 8) rfl (by decide) rfl wl_211 dX3_joinedWord_71 ?_
    refine gm_iconst (v := 1) C dX3_joinedWord_74 (by decide) ?_
    refine gm_icmp_ne C 83 dX3_joinedWord_75 (by decide) (fun c23 => ?_) (fun c23 => ?_)
    · have hf := gm_if _ c23 hf
      refine gm_lload_n C dX3_joinedWord_83 rfl 1 rfl ?_
      exact gm_lretK C hr dX3_joinedWord_84 hf
    · have hf := gm_it _ c23 hf
      refine gm_lload C dX3_joinedWord_78 2 rfl ?_
      refine gm_goto C 84 dX3_joinedWord_80 (by decide) ?_
      exact gm_lretK C hr dX3_joinedWord_84 hf
  · have hf := gm_it _ c22 hf
    refine gm_lconst (v := 0) C dX3_joinedWord_68 (by decide) ?_
    exact gm_lretK C hr dX3_joinedWord_69 hf
theorem dJ13_bitCount_95d88_0 : decode cJ13_bitCount_95d88 0 = .ok (.lload_n 0, 1) := by decide +kernel
theorem dJ13_bitCount_95d88_1 : decode cJ13_bitCount_95d88 1 = .ok (.lload_n 0, 1) := by decide +kernel
theorem dJ13_bitCount_95d88_2 : decode cJ13_bitCount_95d88 2 = .ok (.iconst 1, 1) := by decide +kernel
theorem dJ13_bitCount_95d88_3 : decode cJ13_bitCount_95d88 3 = .ok (.lushr, 1) := by decide +kernel
theorem dJ13_bitCount_95d88_4 : decode cJ13_bitCount_95d88 4 = .ok (.ldc2_w 314, 3) := by decide +kernel
theorem dJ13_bitCount_95d88_7 : decode cJ13_bitCount_95d88 7 = .ok (.land, 1) := by decide +kernel
theorem dJ13_bitCount_95d88_8 : decode cJ13_bitCount_95d88 8 = .ok (.lsub, 1) := by decide +kernel
theorem dJ13_bitCount_95d88_9 : decode cJ13_bitCount_95d88 9 = .ok (.lstore_n 0, 1) := by decide +kernel
theorem dJ13_bitCount_95d88_10 : decode cJ13_bitCount_95d88 10 = .ok (.lload_n 0, 1) := by decide +kernel
theorem dJ13_bitCount_95d88_11 : decode cJ13_bitCount_95d88 11 = .ok (.ldc2_w 316, 3) := by decide +kernel
theorem dJ13_bitCount_95d88_14 : decode cJ13_bitCount_95d88 14 = .ok (.land, 1) := by decide +kernel
theorem dJ13_bitCount_95d88_15 : decode cJ13_bitCount_95d88 15 = .ok (.lload_n 0, 1) := by decide +kernel
theorem dJ13_bitCount_95d88_16 : decode cJ13_bitCount_95d88 16 = .ok (.iconst 2, 1) := by decide +kernel
theorem dJ13_bitCount_95d88_17 : decode cJ13_bitCount_95d88 17 = .ok (.lushr, 1) := by decide +kernel
theorem dJ13_bitCount_95d88_18 : decode cJ13_bitCount_95d88 18 = .ok (.ldc2_w 316, 3) := by decide +kernel
theorem dJ13_bitCount_95d88_21 : decode cJ13_bitCount_95d88 21 = .ok (.land, 1) := by decide +kernel
theorem dJ13_bitCount_95d88_22 : decode cJ13_bitCount_95d88 22 = .ok (.ladd, 1) := by decide +kernel
theorem dJ13_bitCount_95d88_23 : decode cJ13_bitCount_95d88 23 = .ok (.lstore_n 0, 1) := by decide +kernel
theorem dJ13_bitCount_95d88_24 : decode cJ13_bitCount_95d88 24 = .ok (.lload_n 0, 1) := by decide +kernel
theorem dJ13_bitCount_95d88_25 : decode cJ13_bitCount_95d88 25 = .ok (.lload_n 0, 1) := by decide +kernel
theorem dJ13_bitCount_95d88_26 : decode cJ13_bitCount_95d88 26 = .ok (.iconst 4, 1) := by decide +kernel
theorem dJ13_bitCount_95d88_27 : decode cJ13_bitCount_95d88 27 = .ok (.lushr, 1) := by decide +kernel
theorem dJ13_bitCount_95d88_28 : decode cJ13_bitCount_95d88 28 = .ok (.ladd, 1) := by decide +kernel
theorem dJ13_bitCount_95d88_29 : decode cJ13_bitCount_95d88 29 = .ok (.ldc2_w 318, 3) := by decide +kernel
theorem dJ13_bitCount_95d88_32 : decode cJ13_bitCount_95d88 32 = .ok (.land, 1) := by decide +kernel
theorem dJ13_bitCount_95d88_33 : decode cJ13_bitCount_95d88 33 = .ok (.lstore_n 0, 1) := by decide +kernel
theorem dJ13_bitCount_95d88_34 : decode cJ13_bitCount_95d88 34 = .ok (.lload_n 0, 1) := by decide +kernel
theorem dJ13_bitCount_95d88_35 : decode cJ13_bitCount_95d88 35 = .ok (.lload_n 0, 1) := by decide +kernel
theorem dJ13_bitCount_95d88_36 : decode cJ13_bitCount_95d88 36 = .ok (.bipush 8, 2) := by decide +kernel
theorem dJ13_bitCount_95d88_38 : decode cJ13_bitCount_95d88 38 = .ok (.lushr, 1) := by decide +kernel
theorem dJ13_bitCount_95d88_39 : decode cJ13_bitCount_95d88 39 = .ok (.ladd, 1) := by decide +kernel
theorem dJ13_bitCount_95d88_40 : decode cJ13_bitCount_95d88 40 = .ok (.lstore_n 0, 1) := by decide +kernel
theorem dJ13_bitCount_95d88_41 : decode cJ13_bitCount_95d88 41 = .ok (.lload_n 0, 1) := by decide +kernel
theorem dJ13_bitCount_95d88_42 : decode cJ13_bitCount_95d88 42 = .ok (.lload_n 0, 1) := by decide +kernel
theorem dJ13_bitCount_95d88_43 : decode cJ13_bitCount_95d88 43 = .ok (.bipush 16, 2) := by decide +kernel
theorem dJ13_bitCount_95d88_45 : decode cJ13_bitCount_95d88 45 = .ok (.lushr, 1) := by decide +kernel
theorem dJ13_bitCount_95d88_46 : decode cJ13_bitCount_95d88 46 = .ok (.ladd, 1) := by decide +kernel
theorem dJ13_bitCount_95d88_47 : decode cJ13_bitCount_95d88 47 = .ok (.lstore_n 0, 1) := by decide +kernel
theorem dJ13_bitCount_95d88_48 : decode cJ13_bitCount_95d88 48 = .ok (.lload_n 0, 1) := by decide +kernel
theorem dJ13_bitCount_95d88_49 : decode cJ13_bitCount_95d88 49 = .ok (.lload_n 0, 1) := by decide +kernel
theorem dJ13_bitCount_95d88_50 : decode cJ13_bitCount_95d88 50 = .ok (.bipush 32, 2) := by decide +kernel
theorem dJ13_bitCount_95d88_52 : decode cJ13_bitCount_95d88 52 = .ok (.lushr, 1) := by decide +kernel
theorem dJ13_bitCount_95d88_53 : decode cJ13_bitCount_95d88 53 = .ok (.ladd, 1) := by decide +kernel
theorem dJ13_bitCount_95d88_54 : decode cJ13_bitCount_95d88 54 = .ok (.lstore_n 0, 1) := by decide +kernel
theorem dJ13_bitCount_95d88_55 : decode cJ13_bitCount_95d88 55 = .ok (.lload_n 0, 1) := by decide +kernel
theorem dJ13_bitCount_95d88_56 : decode cJ13_bitCount_95d88 56 = .ok (.l2i, 1) := by decide +kernel
theorem dJ13_bitCount_95d88_57 : decode cJ13_bitCount_95d88 57 = .ok (.bipush 127, 2) := by decide +kernel
theorem dJ13_bitCount_95d88_59 : decode cJ13_bitCount_95d88 59 = .ok (.iand, 1) := by decide +kernel
theorem dJ13_bitCount_95d88_60 : decode cJ13_bitCount_95d88 60 = .ok (.ireturn, 1) := by decide +kernel
def Lg_bitCount (a0 : Int64) : Option Int32 :=
  gm_lt (α := Int64) (a0 - (((a0.toUInt64 >>> ((1 : Int32).toInt64.toUInt64 &&& Int64.toUInt64 63)).toInt64) &&& 6148914691236517205)) fun x1 =>
  gm_lt (α := Int64) ((x1 &&& 3689348814741910323) + (((x1.toUInt64 >>> ((2 : Int32).toInt64.toUInt64 &&& Int64.toUInt64 63)).toInt64) &&& 3689348814741910323)) fun x2 =>
  gm_lt (α := Int64) ((x2 + ((x2.toUInt64 >>> ((4 : Int32).toInt64.toUInt64 &&& Int64.toUInt64 63)).toInt64)) &&& 1085102592571150095) fun x3 =>
  gm_lt (α := Int64) (x3 + ((x3.toUInt64 >>> ((8 : Int32).toInt64.toUInt64 &&& Int64.toUInt64 63)).toInt64)) fun x4 =>
  gm_lt (α := Int64) (x4 + ((x4.toUInt64 >>> ((16 : Int32).toInt64.toUInt64 &&& Int64.toUInt64 63)).toInt64)) fun x5 =>
  gm_lt (α := Int64) (x5 + ((x5.toUInt64 >>> ((32 : Int32).toInt64.toUInt64 &&& Int64.toUInt64 63)).toInt64)) fun x6 =>
  some (((x6 : Int64).toInt32) &&& 127)
set_option maxHeartbeats 4000000 in
set_option maxRecDepth 100000 in
theorem Lg_bitCount_c (l : Launch) (cf : gm_C) (ad : Nat → Nat)    {a0 : Int64} {S : gm_M} {r : Int32}  (hf : Lg_bitCount a0 = some r) : gm_Met l yJ13_bitCount_95d88 cJ13_bitCount_95d88 2 (some .int) 0 0 cf ad gm_sC 106 [.long a0] S (some (.int r)) S := by
  refine gm_met (by decide +kernel) (Nat.le_of_ble_eq_true rfl) ?_
  intro p e s m args below meth c C hr
  have C : gm_F p s m args meth c cf ad 106 cJ13_bitCount_95d88 2 RJ13 := C
  refine gm_lve (lv' := [(0, .long a0)]) rfl ?_
  unfold Lg_bitCount at hf
  refine gm_lload_n C dJ13_bitCount_95d88_0 rfl 0 rfl ?_
  refine gm_lload_n C dJ13_bitCount_95d88_1 rfl 0 rfl ?_
  refine gm_iconst (v := 1) C dJ13_bitCount_95d88_2 (by decide) ?_
  refine gm_lushr C dJ13_bitCount_95d88_3 rfl ?_
  refine gm_ldc2 (v := 6148914691236517205) C wl_536 dJ13_bitCount_95d88_4 ?_
  refine gm_land C dJ13_bitCount_95d88_7 ?_
  refine gm_lsub C dJ13_bitCount_95d88_8 ?_
  obtain ⟨x1, ex1, hf⟩ := gm_lt_s hf
  refine gm_topl ex1 ?_
  refine gm_lstore_n (lv' := [(0, .long x1)]) C dJ13_bitCount_95d88_9 rfl (by decide) rfl ?_
  refine gm_lload_n C dJ13_bitCount_95d88_10 rfl 0 rfl ?_
  refine gm_ldc2 (v := 3689348814741910323) C wl_537 dJ13_bitCount_95d88_11 ?_
  refine gm_land C dJ13_bitCount_95d88_14 ?_
  refine gm_lload_n C dJ13_bitCount_95d88_15 rfl 0 rfl ?_
  refine gm_iconst (v := 2) C dJ13_bitCount_95d88_16 (by decide) ?_
  refine gm_lushr C dJ13_bitCount_95d88_17 rfl ?_
  refine gm_ldc2 (v := 3689348814741910323) C wl_537 dJ13_bitCount_95d88_18 ?_
  refine gm_land C dJ13_bitCount_95d88_21 ?_
  refine gm_ladd C dJ13_bitCount_95d88_22 ?_
  obtain ⟨x2, ex2, hf⟩ := gm_lt_s hf
  refine gm_topl ex2 ?_
  refine gm_lstore_n (lv' := [(0, .long x2)]) C dJ13_bitCount_95d88_23 rfl (by decide) rfl ?_
  refine gm_lload_n C dJ13_bitCount_95d88_24 rfl 0 rfl ?_
  refine gm_lload_n C dJ13_bitCount_95d88_25 rfl 0 rfl ?_
  refine gm_iconst (v := 4) C dJ13_bitCount_95d88_26 (by decide) ?_
  refine gm_lushr C dJ13_bitCount_95d88_27 rfl ?_
  refine gm_ladd C dJ13_bitCount_95d88_28 ?_
  refine gm_ldc2 (v := 1085102592571150095) C wl_538 dJ13_bitCount_95d88_29 ?_
  refine gm_land C dJ13_bitCount_95d88_32 ?_
  obtain ⟨x3, ex3, hf⟩ := gm_lt_s hf
  refine gm_topl ex3 ?_
  refine gm_lstore_n (lv' := [(0, .long x3)]) C dJ13_bitCount_95d88_33 rfl (by decide) rfl ?_
  refine gm_lload_n C dJ13_bitCount_95d88_34 rfl 0 rfl ?_
  refine gm_lload_n C dJ13_bitCount_95d88_35 rfl 0 rfl ?_
  refine gm_bipush (v := 8) C dJ13_bitCount_95d88_36 (by decide) ?_
  refine gm_lushr C dJ13_bitCount_95d88_38 rfl ?_
  refine gm_ladd C dJ13_bitCount_95d88_39 ?_
  obtain ⟨x4, ex4, hf⟩ := gm_lt_s hf
  refine gm_topl ex4 ?_
  refine gm_lstore_n (lv' := [(0, .long x4)]) C dJ13_bitCount_95d88_40 rfl (by decide) rfl ?_
  refine gm_lload_n C dJ13_bitCount_95d88_41 rfl 0 rfl ?_
  refine gm_lload_n C dJ13_bitCount_95d88_42 rfl 0 rfl ?_
  refine gm_bipush (v := 16) C dJ13_bitCount_95d88_43 (by decide) ?_
  refine gm_lushr C dJ13_bitCount_95d88_45 rfl ?_
  refine gm_ladd C dJ13_bitCount_95d88_46 ?_
  obtain ⟨x5, ex5, hf⟩ := gm_lt_s hf
  refine gm_topl ex5 ?_
  refine gm_lstore_n (lv' := [(0, .long x5)]) C dJ13_bitCount_95d88_47 rfl (by decide) rfl ?_
  refine gm_lload_n C dJ13_bitCount_95d88_48 rfl 0 rfl ?_
  refine gm_lload_n C dJ13_bitCount_95d88_49 rfl 0 rfl ?_
  refine gm_bipush (v := 32) C dJ13_bitCount_95d88_50 (by decide) ?_
  refine gm_lushr C dJ13_bitCount_95d88_52 rfl ?_
  refine gm_ladd C dJ13_bitCount_95d88_53 ?_
  obtain ⟨x6, ex6, hf⟩ := gm_lt_s hf
  refine gm_topl ex6 ?_
  refine gm_lstore_n (lv' := [(0, .long x6)]) C dJ13_bitCount_95d88_54 rfl (by decide) rfl ?_
  refine gm_lload_n C dJ13_bitCount_95d88_55 rfl 0 rfl ?_
  refine gm_l2i C dJ13_bitCount_95d88_56 rfl ?_
  refine gm_bipush (v := 127) C dJ13_bitCount_95d88_57 (by decide) ?_
  refine gm_iand C dJ13_bitCount_95d88_59 ?_
  exact gm_iretK C hr rfl dJ13_bitCount_95d88_60 hf
