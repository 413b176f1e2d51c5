theorem dX11_goBack_0 : decode cX11_goBack 0 = .ok (.iload_n 1, 1) := by decide +kernel
theorem dX11_goBack_1 : decode cX11_goBack 1 = .ok (.i2l, 1) := by decide +kernel
theorem dX11_goBack_2 : decode cX11_goBack 2 = .ok (.lconst 0, 1) := by decide +kernel
theorem dX11_goBack_3 : decode cX11_goBack 3 = .ok (.lconst 1, 1) := by decide +kernel
theorem dX11_goBack_4 : decode cX11_goBack 4 = .ok (.invokestatic 69, 3) := by decide +kernel
theorem dX11_goBack_7 : decode cX11_goBack 7 = .ok (.ifCond .ne 6, 3) := by decide +kernel
theorem dX11_goBack_10 : decode cX11_goBack 10 = .ok (.ldc 251, 2) := by decide +kernel
theorem dX11_goBack_12 : decode cX11_goBack 12 = .ok (.ireturn, 1) := by decide +kernel
theorem dX11_goBack_13 : decode cX11_goBack 13 = .ok (.aload_n 0, 1) := by decide +kernel
theorem dX11_goBack_14 : decode cX11_goBack 14 = .ok (.getfield 60, 3) := by decide +kernel
theorem dX11_goBack_17 : decode cX11_goBack 17 = .ok (.iload_n 1, 1) := by decide +kernel
theorem dX11_goBack_18 : decode cX11_goBack 18 = .ok (.baload, 1) := by decide +kernel
theorem dX11_goBack_19 : decode cX11_goBack 19 = .ok (.ifCond .ne 7, 3) := by decide +kernel
theorem dX11_goBack_22 : decode cX11_goBack 22 = .ok (.ldc_w 272, 3) := by decide +kernel
theorem dX11_goBack_25 : decode cX11_goBack 25 = .ok (.ireturn, 1) := by decide +kernel
theorem dX11_goBack_26 : decode cX11_goBack 26 = .ok (.iconst 0, 1) := by decide +kernel
theorem dX11_goBack_27 : decode cX11_goBack 27 = .ok (.istore_n 2, 1) := by decide +kernel
theorem dX11_goBack_28 : decode cX11_goBack 28 = .ok (.iload_n 2, 1) := by decide +kernel
theorem dX11_goBack_29 : decode cX11_goBack 29 = .ok (.bipush 42, 2) := by decide +kernel
theorem dX11_goBack_31 : decode cX11_goBack 31 = .ok (.if_icmp .ge 26, 3) := by decide +kernel
theorem dX11_goBack_34 : decode cX11_goBack 34 = .ok (.aload_n 0, 1) := by decide +kernel
theorem dX11_goBack_35 : decode cX11_goBack 35 = .ok (.getfield 13, 3) := by decide +kernel
theorem dX11_goBack_38 : decode cX11_goBack 38 = .ok (.iload_n 2, 1) := by decide +kernel
theorem dX11_goBack_39 : decode cX11_goBack 39 = .ok (.aload_n 0, 1) := by decide +kernel
theorem dX11_goBack_40 : decode cX11_goBack 40 = .ok (.getfield 57, 3) := by decide +kernel
theorem dX11_goBack_43 : decode cX11_goBack 43 = .ok (.bipush 43, 2) := by decide +kernel
theorem dX11_goBack_45 : decode cX11_goBack 45 = .ok (.iload_n 1, 1) := by decide +kernel
theorem dX11_goBack_46 : decode cX11_goBack 46 = .ok (.imul, 1) := by decide +kernel
theorem dX11_goBack_47 : decode cX11_goBack 47 = .ok (.iload_n 2, 1) := by decide +kernel
theorem dX11_goBack_48 : decode cX11_goBack 48 = .ok (.iadd, 1) := by decide +kernel
theorem dX11_goBack_49 : decode cX11_goBack 49 = .ok (.iaload, 1) := by decide +kernel
theorem dX11_goBack_50 : decode cX11_goBack 50 = .ok (.iastore, 1) := by decide +kernel
theorem dX11_goBack_51 : decode cX11_goBack 51 = .ok (.iinc 2 1, 3) := by decide +kernel
theorem dX11_goBack_54 : decode cX11_goBack 54 = .ok (.goto (-26), 3) := by decide +kernel
theorem dX11_goBack_57 : decode cX11_goBack 57 = .ok (.aload_n 0, 1) := by decide +kernel
theorem dX11_goBack_58 : decode cX11_goBack 58 = .ok (.aload_n 0, 1) := by decide +kernel
theorem dX11_goBack_59 : decode cX11_goBack 59 = .ok (.getfield 57, 3) := by decide +kernel
theorem dX11_goBack_62 : decode cX11_goBack 62 = .ok (.bipush 43, 2) := by decide +kernel
theorem dX11_goBack_64 : decode cX11_goBack 64 = .ok (.iload_n 1, 1) := by decide +kernel
theorem dX11_goBack_65 : decode cX11_goBack 65 = .ok (.imul, 1) := by decide +kernel
theorem dX11_goBack_66 : decode cX11_goBack 66 = .ok (.bipush 42, 2) := by decide +kernel
theorem dX11_goBack_68 : decode cX11_goBack 68 = .ok (.iadd, 1) := by decide +kernel
theorem dX11_goBack_69 : decode cX11_goBack 69 = .ok (.iaload, 1) := by decide +kernel
theorem dX11_goBack_70 : decode cX11_goBack 70 = .ok (.putfield 283, 3) := by decide +kernel
theorem dX11_goBack_73 : decode cX11_goBack 73 = .ok (.aload_n 0, 1) := by decide +kernel
theorem dX11_goBack_74 : decode cX11_goBack 74 = .ok (.iconst 0, 1) := by decide +kernel
theorem dX11_goBack_75 : decode cX11_goBack 75 = .ok (.putfield 191, 3) := by decide +kernel
theorem dX11_goBack_78 : decode cX11_goBack 78 = .ok (.iconst 1, 1) := by decide +kernel
theorem dX11_goBack_79 : decode cX11_goBack 79 = .ok (.ireturn, 1) := by decide +kernel
def Mo_goBack_L28_b (a0 : Int32) (rec : Int32 → gm_M → Option (gm_M)) (y5 : Int32) (S6 : gm_M) : Option (gm_M) :=
  if (42 : Int32) ≤ y5 then (
    some (S6)
  ) else (
    gm_ck ((43 * a0) + y5) 86 <|
    gm_ck (y5) 42 <|
    gm_lt (α := gm_M) (gm_ui S6 2 (y5.toNatClampNeg) (S6.1 15 ((43 * a0) + y5).toNatClampNeg)) fun S11 =>
    gm_lt (α := Int32) (y5 + 1) fun x12 =>
    rec x12 S11
  )
def Mo_goBack_L28 (a0 : Int32) : Nat → Int32 → gm_M → Option (gm_M)
  | 0 => fun _ _ => none
  | n + 1 => Mo_goBack_L28_b a0 (Mo_goBack_L28 a0 n)
def Mo_goBack (fl : Nat) (a0 : Int32) (S : gm_M) : Option (Int32 × gm_M) :=
  gm_bp1 (Mo_in ((a0 : Int32).toInt64) 0 1) fun v1 =>
  if v1 = 0 then (
    some ((-1000000001), S)
  ) else (
    gm_ck (a0) 2 <|
    if S.1 16 a0.toNatClampNeg = 0 then (
      some ((-1000000003), S)
    ) else (
      gm_bp1 (Mo_goBack_L28 a0 fl 0 S) fun S7 =>
      gm_ck ((43 * a0) + 42) 86 <|
      gm_lt (α := gm_M) (gm_ui S7 0 7 (S7.1 15 ((43 * a0) + 42).toNatClampNeg)) fun S14 =>
      gm_lt (α := gm_M) (gm_ui S14 0 27 0) fun S15 =>
      some (1, S15)
    )
  )
set_option maxHeartbeats 4000000 in
set_option maxRecDepth 100000 in
theorem Mo_goBack_c (l : Launch) (cf : gm_C) (ad : Nat → Nat) {fl : Nat}   {a0 : Int32} {S : gm_M} {r : Int32} {S'  : gm_M} (hf : Mo_goBack fl a0 S = some (r, S')) : gm_Met l yX11_goBack cX11_goBack 3 (some .int) 1 25 cf ad gm_sM 17 [.ref (ad 0), .int a0] S (some (.int r)) S' := by
  refine gm_met (by decide +kernel) (Nat.le_of_ble_eq_true rfl) ?_
  intro p e s m args below meth c C hr
  have C : gm_F p s m args meth c cf ad 17 cX11_goBack 3 RX11 := C
  refine gm_lve (lv' := [(0, .ref (ad 0)), (1, .int a0)]) rfl ?_
  unfold Mo_goBack at hf
  refine gm_iload_n C dX11_goBack_0 rfl 1 rfl ?_
  refine gm_i2l C dX11_goBack_1 rfl ?_
  refine gm_lconst (v := 0) C dX11_goBack_2 (by decide) ?_
  refine gm_lconst (v := 1) C dX11_goBack_3 (by decide) ?_
  obtain ⟨v1, ev1, hf⟩ := gm_bp1_s hf
  refine gm_callSi (As := [.long ((a0 : Int32).toInt64), .long 0, .long 1]) C (Mo_in_c l cf ad ev1 (S := S)) wy_Mo_in wl_957 rfl ⟨(Nat.le_of_ble_eq_true rfl), (Nat.le_of_ble_eq_true rfl)⟩ rfl (Nat.le_of_ble_eq_true rfl) dX11_goBack_4 ?_
  refine gm_if_ne C 13 dX11_goBack_7 (by decide) (fun c2 => ?_) (fun c2 => ?_)
  · have hf := gm_if _ c2 hf
    refine gm_aload_n C dX11_goBack_13 rfl 0 rfl ?_
    refine gm_getr (j := 16) (u := 16) C (Nat.le_of_ble_eq_true rfl) rfl kc_11 (k := 36) rfl (by decide) rfl rfl wl_876 dX11_goBack_14 ?_
    refine gm_iload_n C dX11_goBack_17 rfl 1 rfl ?_
    obtain ⟨h3, hf⟩ := gm_ck_s hf
    refine gm_zald C (Nat.le_of_ble_eq_true rfl) rfl rfl h3 dX11_goBack_18 ?_
    refine gm_if_ne C 26 dX11_goBack_19 (by decide) (fun c4 => ?_) (fun c4 => ?_)
    · have hf := gm_if _ c4 hf
      refine gm_iconst (v := 0) C dX11_goBack_26 (by decide) ?_
      refine gm_istore_n (lv' := [(2, .int 0), (0, .ref (ad 0)), (1, .int a0)]) C dX11_goBack_27 rfl (by decide) rfl ?_
      have L28 : ∀ (n : Nat) (y5 : Int32) (S6 : gm_M) (S7 : gm_M), Mo_goBack_L28 a0 n y5 S6 = some (S7) → gm_G p l e { frames := 1, cells := 0, slots := 0, locals := 25 } s m args below meth c (MQ below (gm_Q cf ad gm_sM 17 (some (.int r)) S') args s 0 0 (gm_A ad 17)) cf ad gm_sM 17 3 S7 57 [(0, .ref (ad 0)), (1, .int a0)] [] → gm_G p l e { frames := 1, cells := 0, slots := 0, locals := 25 } s m args below meth c (MQ below (gm_Q cf ad gm_sM 17 (some (.int r)) S') args s 0 0 (gm_A ad 17)) cf ad gm_sM 17 3 S6 28 [(0, .ref (ad 0)), (1, .int a0), (2, .int y5)] [] := by
        intro n
        induction n with
        | zero => intro y5 S6 S7 hf K; cases (show (none : Option _) = some _ from hf)
        | succ n ih =>
          intro y5 S6 S7 hf K
          have hf : Mo_goBack_L28_b a0 (Mo_goBack_L28 a0 n) y5 S6 = some (S7) := hf
          unfold Mo_goBack_L28_b at hf
          refine gm_iload_n C dX11_goBack_28 rfl 2 rfl ?_
          refine gm_bipush (v := 42) C dX11_goBack_29 (by decide) ?_
          refine gm_icmp_ge C 57 dX11_goBack_31 (by decide) (fun c8 => ?_) (fun c8 => ?_)
          · have hf := gm_it _ c8 hf
            cases hf
            exact gm_lvp [0, 1] rfl K
          · have hf := gm_if _ c8 hf
            refine gm_aload_n C dX11_goBack_34 rfl 0 rfl ?_
            refine gm_getr (j := 2) (u := 2) C (Nat.le_of_ble_eq_true rfl) rfl kc_11 (k := 6) rfl (by decide) rfl rfl wl_846 dX11_goBack_35 ?_
            refine gm_iload_n C dX11_goBack_38 rfl 2 rfl ?_
            refine gm_aload_n C dX11_goBack_39 rfl 0 rfl ?_
            refine gm_getr (j := 15) (u := 15) C (Nat.le_of_ble_eq_true rfl) rfl kc_11 (k := 35) rfl (by decide) rfl rfl wl_875 dX11_goBack_40 ?_
            refine gm_bipush (v := 43) C dX11_goBack_43 (by decide) ?_
            refine gm_iload_n C dX11_goBack_45 rfl 1 rfl ?_
            refine gm_imul C dX11_goBack_46 ?_
            refine gm_iload_n C dX11_goBack_47 rfl 2 rfl ?_
            refine gm_iadd C dX11_goBack_48 ?_
            obtain ⟨h9, hf⟩ := gm_ck_s hf
            refine gm_iald C (Nat.le_of_ble_eq_true rfl) rfl rfl h9 dX11_goBack_49 ?_
            obtain ⟨h10, hf⟩ := gm_ck_s hf
            refine gm_iast C (Nat.le_of_ble_eq_true rfl) rfl rfl h10 dX11_goBack_50 ?_
            obtain ⟨S11, eS11, hf⟩ := gm_lt_s hf
            refine gm_topm eS11 ?_
            obtain ⟨x12, ex12, hf⟩ := gm_lt_s hf
            refine gm_iinc (v := x12) (lv' := [(2, .int x12), (0, .ref (ad 0)), (1, .int a0)]) (j := 2) C dX11_goBack_51 rfl (by rw [ex12]; rfl) (by decide) rfl ?_
            refine gm_goto C 28 dX11_goBack_54 (by decide) ?_
            exact gm_lvp [1, 2, 0] rfl (ih _ _ _ hf K)
      obtain ⟨S7, hx, hf⟩ := gm_bp1_s hf
      refine gm_lvp [1, 2, 0] rfl (L28 fl _ _ _ hx ?_)
      refine gm_aload_n C dX11_goBack_57 rfl 0 rfl ?_
      refine gm_aload_n C dX11_goBack_58 rfl 0 rfl ?_
      refine gm_getr (j := 15) (u := 15) C (Nat.le_of_ble_eq_true rfl) rfl kc_11 (k := 35) rfl (by decide) rfl rfl wl_875 dX11_goBack_59 ?_
      refine gm_bipush (v := 43) C dX11_goBack_62 (by decide) ?_
      refine gm_iload_n C dX11_goBack_64 rfl 1 rfl ?_
      refine gm_imul C dX11_goBack_65 ?_
      refine gm_bipush (v := 42) C dX11_goBack_66 (by decide) ?_
      refine gm_iadd C dX11_goBack_68 ?_
      obtain ⟨h13, hf⟩ := gm_ck_s hf
      refine gm_iald C (Nat.le_of_ble_eq_true rfl) rfl rfl h13 dX11_goBack_69 ?_
      refine gm_puti C (Nat.le_of_ble_eq_true rfl) rfl kc_11 (k := 7) rfl (by decide) rfl rfl (kc_11.2.2.2.1 7 (by decide)) rfl rfl wl_847 dX11_goBack_70 ?_
      obtain ⟨S14, eS14, hf⟩ := gm_lt_s hf
      refine gm_topm eS14 ?_
      refine gm_aload_n C dX11_goBack_73 rfl 0 rfl ?_
      refine gm_iconst (v := 0) C dX11_goBack_74 (by decide) ?_
      refine gm_puti C (Nat.le_of_ble_eq_true rfl) rfl kc_11 (k := 27) rfl (by decide) rfl rfl (kc_11.2.2.2.1 27 (by decide)) rfl rfl wl_867 dX11_goBack_75 ?_
      obtain ⟨S15, eS15, hf⟩ := gm_lt_s hf
      refine gm_topm eS15 ?_
      refine gm_iconst (v := 1) C dX11_goBack_78 (by decide) ?_
      exact gm_iret C hr rfl dX11_goBack_79 hf
    · have hf := gm_it _ c4 hf
      refine gm_ldcw (v := (-1000000003)) C wl_1175 dX11_goBack_22 ?_
      exact gm_iret C hr rfl dX11_goBack_25 hf
  · have hf := gm_it _ c2 hf
    refine gm_ldc (v := (-1000000001)) C wl_1134 dX11_goBack_10 ?_
    exact gm_iret C hr rfl dX11_goBack_12 hf
