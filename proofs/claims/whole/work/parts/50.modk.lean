theorem dX11_give_0 : decode cX11_give 0 = .ok (.aload_n 0, 1) := by decide +kernel
theorem dX11_give_1 : decode cX11_give 1 = .ok (.iload_n 1, 1) := by decide +kernel
theorem dX11_give_2 : decode cX11_give 2 = .ok (.invokevirtual 262, 3) := by decide +kernel
theorem dX11_give_5 : decode cX11_give 5 = .ok (.ifCond .eq 16, 3) := by decide +kernel
theorem dX11_give_8 : decode cX11_give 8 = .ok (.aload_n 0, 1) := by decide +kernel
theorem dX11_give_9 : decode cX11_give 9 = .ok (.iload_n 2, 1) := by decide +kernel
theorem dX11_give_10 : decode cX11_give 10 = .ok (.invokevirtual 262, 3) := by decide +kernel
theorem dX11_give_13 : decode cX11_give 13 = .ok (.ifCond .eq 8, 3) := by decide +kernel
theorem dX11_give_16 : decode cX11_give 16 = .ok (.iload_n 1, 1) := by decide +kernel
theorem dX11_give_17 : decode cX11_give 17 = .ok (.iload_n 2, 1) := by decide +kernel
theorem dX11_give_18 : decode cX11_give 18 = .ok (.if_icmp .ne 6, 3) := by decide +kernel
theorem dX11_give_21 : decode cX11_give 21 = .ok (.ldc 251, 2) := by decide +kernel
theorem dX11_give_23 : decode cX11_give 23 = .ok (.ireturn, 1) := by decide +kernel
theorem dX11_give_24 : decode cX11_give 24 = .ok (.aload_n 0, 1) := by decide +kernel
theorem dX11_give_25 : decode cX11_give 25 = .ok (.getfield 13, 3) := by decide +kernel
theorem dX11_give_28 : decode cX11_give 28 = .ok (.bipush 26, 2) := by decide +kernel
theorem dX11_give_30 : decode cX11_give 30 = .ok (.iload_n 1, 1) := by decide +kernel
theorem dX11_give_31 : decode cX11_give 31 = .ok (.iadd, 1) := by decide +kernel
theorem dX11_give_32 : decode cX11_give 32 = .ok (.iaload, 1) := by decide +kernel
theorem dX11_give_33 : decode cX11_give 33 = .ok (.ifCond .ne 7, 3) := by decide +kernel
theorem dX11_give_36 : decode cX11_give 36 = .ok (.ldc_w 272, 3) := by decide +kernel
theorem dX11_give_39 : decode cX11_give 39 = .ok (.ireturn, 1) := by decide +kernel
theorem dX11_give_40 : decode cX11_give 40 = .ok (.aload_n 0, 1) := by decide +kernel
theorem dX11_give_41 : decode cX11_give 41 = .ok (.invokevirtual 273, 3) := by decide +kernel
theorem dX11_give_44 : decode cX11_give 44 = .ok (.aload_n 0, 1) := by decide +kernel
theorem dX11_give_45 : decode cX11_give 45 = .ok (.getfield 13, 3) := by decide +kernel
theorem dX11_give_48 : decode cX11_give 48 = .ok (.bipush 26, 2) := by decide +kernel
theorem dX11_give_50 : decode cX11_give 50 = .ok (.iload_n 1, 1) := by decide +kernel
theorem dX11_give_51 : decode cX11_give 51 = .ok (.iadd, 1) := by decide +kernel
theorem dX11_give_52 : decode cX11_give 52 = .ok (.dup2, 1) := by decide +kernel
theorem dX11_give_53 : decode cX11_give 53 = .ok (.iaload, 1) := by decide +kernel
theorem dX11_give_54 : decode cX11_give 54 = .ok (.iconst 1, 1) := by decide +kernel
theorem dX11_give_55 : decode cX11_give 55 = .ok (.isub, 1) := by decide +kernel
theorem dX11_give_56 : decode cX11_give 56 = .ok (.iastore, 1) := by decide +kernel
theorem dX11_give_57 : decode cX11_give 57 = .ok (.aload_n 0, 1) := by decide +kernel
theorem dX11_give_58 : decode cX11_give 58 = .ok (.getfield 13, 3) := by decide +kernel
theorem dX11_give_61 : decode cX11_give 61 = .ok (.bipush 21, 2) := by decide +kernel
theorem dX11_give_63 : decode cX11_give 63 = .ok (.iload_n 1, 1) := by decide +kernel
theorem dX11_give_64 : decode cX11_give 64 = .ok (.iadd, 1) := by decide +kernel
theorem dX11_give_65 : decode cX11_give 65 = .ok (.dup2, 1) := by decide +kernel
theorem dX11_give_66 : decode cX11_give 66 = .ok (.iaload, 1) := by decide +kernel
theorem dX11_give_67 : decode cX11_give 67 = .ok (.iconst 1, 1) := by decide +kernel
theorem dX11_give_68 : decode cX11_give 68 = .ok (.isub, 1) := by decide +kernel
theorem dX11_give_69 : decode cX11_give 69 = .ok (.iastore, 1) := by decide +kernel
theorem dX11_give_70 : decode cX11_give 70 = .ok (.aload_n 0, 1) := by decide +kernel
theorem dX11_give_71 : decode cX11_give 71 = .ok (.bipush 26, 2) := by decide +kernel
theorem dX11_give_73 : decode cX11_give 73 = .ok (.iload_n 2, 1) := by decide +kernel
theorem dX11_give_74 : decode cX11_give 74 = .ok (.iadd, 1) := by decide +kernel
theorem dX11_give_75 : decode cX11_give 75 = .ok (.invokevirtual 268, 3) := by decide +kernel
theorem dX11_give_78 : decode cX11_give 78 = .ok (.aload_n 0, 1) := by decide +kernel
theorem dX11_give_79 : decode cX11_give 79 = .ok (.bipush 21, 2) := by decide +kernel
theorem dX11_give_81 : decode cX11_give 81 = .ok (.iload_n 2, 1) := by decide +kernel
theorem dX11_give_82 : decode cX11_give 82 = .ok (.iadd, 1) := by decide +kernel
theorem dX11_give_83 : decode cX11_give 83 = .ok (.invokevirtual 268, 3) := by decide +kernel
theorem dX11_give_86 : decode cX11_give 86 = .ok (.aload_n 0, 1) := by decide +kernel
theorem dX11_give_87 : decode cX11_give 87 = .ok (.getfield 13, 3) := by decide +kernel
theorem dX11_give_90 : decode cX11_give 90 = .ok (.bipush 26, 2) := by decide +kernel
theorem dX11_give_92 : decode cX11_give 92 = .ok (.iload_n 2, 1) := by decide +kernel
theorem dX11_give_93 : decode cX11_give 93 = .ok (.iadd, 1) := by decide +kernel
theorem dX11_give_94 : decode cX11_give 94 = .ok (.iaload, 1) := by decide +kernel
theorem dX11_give_95 : decode cX11_give 95 = .ok (.ireturn, 1) := by decide +kernel
def Mo_give (fl : Nat) (a0 : Int32) (a1 : Int32) (S : gm_M) : Option (Int32 × gm_M) :=
  gm_bp1 (Mo_isRider a0 S) fun v1 =>
  if v1 = 0 then (
    some ((-1000000001), S)
  ) else (
    gm_bp1 (Mo_isRider a1 S) fun v3 =>
    if v3 = 0 then (
      some ((-1000000001), S)
    ) else (
      if a0 = a1 then (
        some ((-1000000001), S)
      ) else (
        gm_ck (26 + a0) 42 <|
        if S.1 2 (26 + a0).toNatClampNeg = 0 then (
          some ((-1000000003), S)
        ) else (
          gm_bp1 (Mo_remember fl S) fun S8 =>
          gm_ck (26 + a0) 42 <|
          gm_ck (26 + a0) 42 <|
          gm_lt (α := gm_M) (gm_ui S8 2 ((26 + a0).toNatClampNeg) ((S8.1 2 (26 + a0).toNatClampNeg) - 1)) fun S11 =>
          gm_ck (21 + a0) 42 <|
          gm_ck (21 + a0) 42 <|
          gm_lt (α := gm_M) (gm_ui S11 2 ((21 + a0).toNatClampNeg) ((S11.1 2 (21 + a0).toNatClampNeg) - 1)) fun S14 =>
          gm_bp1 (Mo_more (26 + a1) S14) fun S15 =>
          gm_bp1 (Mo_more (21 + a1) S15) fun S16 =>
          gm_ck (26 + a1) 42 <|
          some (S16.1 2 (26 + a1).toNatClampNeg, S16)
        )
      )
    )
  )
set_option maxHeartbeats 4000000 in
set_option maxRecDepth 100000 in
theorem Mo_give_c (l : Launch) (cf : gm_C) (ad : Nat → Nat) {fl : Nat}   {a0 : Int32} {a1 : Int32} {S : gm_M} {r : Int32} {S'  : gm_M} (hf : Mo_give fl a0 a1 S = some (r, S')) : gm_Met l yX11_give cX11_give 3 (some .int) 2 46 cf ad gm_sM 17 [.ref (ad 0), .int a0, .int a1] S (some (.int r)) S' := by
  refine gm_met (by decide +kernel) (Nat.le_of_ble_eq_true rfl) ?_
  intro p e s m args below meth c C hr
  have C : gm_F p s m args meth c cf ad 17 cX11_give 3 RX11 := C
  refine gm_lve (lv' := [(0, .ref (ad 0)), (1, .int a0), (2, .int a1)]) rfl ?_
  unfold Mo_give at hf
  refine gm_aload_n C dX11_give_0 rfl 0 rfl ?_
  refine gm_iload_n C dX11_give_1 rfl 1 rfl ?_
  obtain ⟨v1, ev1, hf⟩ := gm_bp1_s hf
  refine gm_callVi (As := [.int a0]) C (Mo_isRider_c l cf ad ev1) (Nat.le_of_ble_eq_true rfl) rfl kc_11 wy_Mo_isRider rfl wl_1159 rfl ⟨(Nat.le_of_ble_eq_true rfl), (Nat.le_of_ble_eq_true rfl)⟩ rfl (Nat.le_of_ble_eq_true rfl) dX11_give_2 ?_
  refine gm_if_eq C 21 dX11_give_5 (by decide) (fun c2 => ?_) (fun c2 => ?_)
  · have hf := gm_it _ c2 hf
    refine gm_ldc (v := (-1000000001)) C wl_1134 dX11_give_21 ?_
    exact gm_iret C hr rfl dX11_give_23 hf
  · have hf := gm_if _ c2 hf
    refine gm_aload_n C dX11_give_8 rfl 0 rfl ?_
    refine gm_iload_n C dX11_give_9 rfl 2 rfl ?_
    obtain ⟨v3, ev3, hf⟩ := gm_bp1_s hf
    refine gm_callVi (As := [.int a1]) C (Mo_isRider_c l cf ad ev3) (Nat.le_of_ble_eq_true rfl) rfl kc_11 wy_Mo_isRider rfl wl_1159 rfl ⟨(Nat.le_of_ble_eq_true rfl), (Nat.le_of_ble_eq_true rfl)⟩ rfl (Nat.le_of_ble_eq_true rfl) dX11_give_10 ?_
    refine gm_if_eq C 21 dX11_give_13 (by decide) (fun c4 => ?_) (fun c4 => ?_)
    · have hf := gm_it _ c4 hf
      refine gm_ldc (v := (-1000000001)) C wl_1134 dX11_give_21 ?_
      exact gm_iret C hr rfl dX11_give_23 hf
    · have hf := gm_if _ c4 hf
      refine gm_iload_n C dX11_give_16 rfl 1 rfl ?_
      refine gm_iload_n C dX11_give_17 rfl 2 rfl ?_
      refine gm_icmp_ne C 24 dX11_give_18 (by decide) (fun c5 => ?_) (fun c5 => ?_)
      · have hf := gm_if _ c5 hf
        refine gm_aload_n C dX11_give_24 rfl 0 rfl ?_
        refine gm_getr (j := 2) (u := 2) C (Nat.le_of_ble_eq_true rfl) rfl kc_11 (k := 6) rfl (by decide) rfl rfl wl_846 dX11_give_25 ?_
        refine gm_bipush (v := 26) C dX11_give_28 (by decide) ?_
        refine gm_iload_n C dX11_give_30 rfl 1 rfl ?_
        refine gm_iadd C dX11_give_31 ?_
        obtain ⟨h6, hf⟩ := gm_ck_s hf
        refine gm_iald C (Nat.le_of_ble_eq_true rfl) rfl rfl h6 dX11_give_32 ?_
        refine gm_if_ne C 40 dX11_give_33 (by decide) (fun c7 => ?_) (fun c7 => ?_)
        · have hf := gm_if _ c7 hf
          refine gm_aload_n C dX11_give_40 rfl 0 rfl ?_
          obtain ⟨S8, eS8, hf⟩ := gm_bp1_s hf
          refine gm_callVv (As := []) C (Mo_remember_c l cf ad eS8) (Nat.le_of_ble_eq_true rfl) rfl kc_11 wy_Mo_remember rfl wl_1176 rfl ⟨(Nat.le_of_ble_eq_true rfl), (Nat.le_of_ble_eq_true rfl)⟩ rfl (Nat.le_of_ble_eq_true rfl) dX11_give_41 ?_
          refine gm_aload_n C dX11_give_44 rfl 0 rfl ?_
          refine gm_getr (j := 2) (u := 2) C (Nat.le_of_ble_eq_true rfl) rfl kc_11 (k := 6) rfl (by decide) rfl rfl wl_846 dX11_give_45 ?_
          refine gm_bipush (v := 26) C dX11_give_48 (by decide) ?_
          refine gm_iload_n C dX11_give_50 rfl 1 rfl ?_
          refine gm_iadd C dX11_give_51 ?_
          refine gm_dup2_11 C dX11_give_52 rfl rfl ?_
          obtain ⟨h9, hf⟩ := gm_ck_s hf
          refine gm_iald C (Nat.le_of_ble_eq_true rfl) rfl rfl h9 dX11_give_53 ?_
          refine gm_iconst (v := 1) C dX11_give_54 (by decide) ?_
          refine gm_isub C dX11_give_55 ?_
          obtain ⟨h10, hf⟩ := gm_ck_s hf
          refine gm_iast C (Nat.le_of_ble_eq_true rfl) rfl rfl h10 dX11_give_56 ?_
          obtain ⟨S11, eS11, hf⟩ := gm_lt_s hf
          refine gm_topm eS11 ?_
          refine gm_aload_n C dX11_give_57 rfl 0 rfl ?_
          refine gm_getr (j := 2) (u := 2) C (Nat.le_of_ble_eq_true rfl) rfl kc_11 (k := 6) rfl (by decide) rfl rfl wl_846 dX11_give_58 ?_
          refine gm_bipush (v := 21) C dX11_give_61 (by decide) ?_
          refine gm_iload_n C dX11_give_63 rfl 1 rfl ?_
          refine gm_iadd C dX11_give_64 ?_
          refine gm_dup2_11 C dX11_give_65 rfl rfl ?_
          obtain ⟨h12, hf⟩ := gm_ck_s hf
          refine gm_iald C (Nat.le_of_ble_eq_true rfl) rfl rfl h12 dX11_give_66 ?_
          refine gm_iconst (v := 1) C dX11_give_67 (by decide) ?_
          refine gm_isub C dX11_give_68 ?_
          obtain ⟨h13, hf⟩ := gm_ck_s hf
          refine gm_iast C (Nat.le_of_ble_eq_true rfl) rfl rfl h13 dX11_give_69 ?_
          obtain ⟨S14, eS14, hf⟩ := gm_lt_s hf
          refine gm_topm eS14 ?_
          refine gm_aload_n C dX11_give_70 rfl 0 rfl ?_
          refine gm_bipush (v := 26) C dX11_give_71 (by decide) ?_
          refine gm_iload_n C dX11_give_73 rfl 2 rfl ?_
          refine gm_iadd C dX11_give_74 ?_
          obtain ⟨S15, eS15, hf⟩ := gm_bp1_s hf
          refine gm_callVv (As := [.int (26 + a1)]) C (Mo_more_c l cf ad eS15) (Nat.le_of_ble_eq_true rfl) rfl kc_11 wy_Mo_more rfl wl_1184 rfl ⟨(Nat.le_of_ble_eq_true rfl), (Nat.le_of_ble_eq_true rfl)⟩ rfl (Nat.le_of_ble_eq_true rfl) dX11_give_75 ?_
          refine gm_aload_n C dX11_give_78 rfl 0 rfl ?_
          refine gm_bipush (v := 21) C dX11_give_79 (by decide) ?_
          refine gm_iload_n C dX11_give_81 rfl 2 rfl ?_
          refine gm_iadd C dX11_give_82 ?_
          obtain ⟨S16, eS16, hf⟩ := gm_bp1_s hf
          refine gm_callVv (As := [.int (21 + a1)]) C (Mo_more_c l cf ad eS16) (Nat.le_of_ble_eq_true rfl) rfl kc_11 wy_Mo_more rfl wl_1184 rfl ⟨(Nat.le_of_ble_eq_true rfl), (Nat.le_of_ble_eq_true rfl)⟩ rfl (Nat.le_of_ble_eq_true rfl) dX11_give_83 ?_
          refine gm_aload_n C dX11_give_86 rfl 0 rfl ?_
          refine gm_getr (j := 2) (u := 2) C (Nat.le_of_ble_eq_true rfl) rfl kc_11 (k := 6) rfl (by decide) rfl rfl wl_846 dX11_give_87 ?_
          refine gm_bipush (v := 26) C dX11_give_90 (by decide) ?_
          refine gm_iload_n C dX11_give_92 rfl 2 rfl ?_
          refine gm_iadd C dX11_give_93 ?_
          obtain ⟨h17, hf⟩ := gm_ck_s hf
          refine gm_iald C (Nat.le_of_ble_eq_true rfl) rfl rfl h17 dX11_give_94 ?_
          exact gm_iret C hr rfl dX11_give_95 hf
        · have hf := gm_it _ c7 hf
          refine gm_ldcw (v := (-1000000003)) C wl_1175 dX11_give_36 ?_
          exact gm_iret C hr rfl dX11_give_39 hf
      · have hf := gm_it _ c5 hf
        refine gm_ldc (v := (-1000000001)) C wl_1134 dX11_give_21 ?_
        exact gm_iret C hr rfl dX11_give_23 hf
theorem dX11_rule_0 : decode cX11_rule 0 = .ok (.aload_n 0, 1) := by decide +kernel
theorem dX11_rule_1 : decode cX11_rule 1 = .ok (.iload_n 1, 1) := by decide +kernel
theorem dX11_rule_2 : decode cX11_rule 2 = .ok (.invokevirtual 248, 3) := by decide +kernel
theorem dX11_rule_5 : decode cX11_rule 5 = .ok (.ifCond .ne 6, 3) := by decide +kernel
theorem dX11_rule_8 : decode cX11_rule 8 = .ok (.ldc 251, 2) := by decide +kernel
theorem dX11_rule_10 : decode cX11_rule 10 = .ok (.ireturn, 1) := by decide +kernel
theorem dX11_rule_11 : decode cX11_rule 11 = .ok (.iload_n 2, 1) := by decide +kernel
theorem dX11_rule_12 : decode cX11_rule 12 = .ok (.iload_n 3, 1) := by decide +kernel
theorem dX11_rule_13 : decode cX11_rule 13 = .ok (.iload 4, 2) := by decide +kernel
theorem dX11_rule_15 : decode cX11_rule 15 = .ok (.invokestatic 146, 3) := by decide +kernel
theorem dX11_rule_18 : decode cX11_rule 18 = .ok (.ifCond .ne 6, 3) := by decide +kernel
theorem dX11_rule_21 : decode cX11_rule 21 = .ok (.ldc 96, 2) := by decide +kernel
theorem dX11_rule_23 : decode cX11_rule 23 = .ok (.ireturn, 1) := by decide +kernel
theorem dX11_rule_24 : decode cX11_rule 24 = .ok (.aload_n 0, 1) := by decide +kernel
theorem dX11_rule_25 : decode cX11_rule 25 = .ok (.invokevirtual 273, 3) := by decide +kernel
theorem dX11_rule_28 : decode cX11_rule 28 = .ok (.aload_n 0, 1) := by decide +kernel
theorem dX11_rule_29 : decode cX11_rule 29 = .ok (.getfield 13, 3) := by decide +kernel
theorem dX11_rule_32 : decode cX11_rule 32 = .ok (.iconst 1, 1) := by decide +kernel
theorem dX11_rule_33 : decode cX11_rule 33 = .ok (.iload_n 1, 1) := by decide +kernel
theorem dX11_rule_34 : decode cX11_rule 34 = .ok (.iadd, 1) := by decide +kernel
theorem dX11_rule_35 : decode cX11_rule 35 = .ok (.iload_n 2, 1) := by decide +kernel
theorem dX11_rule_36 : decode cX11_rule 36 = .ok (.iastore, 1) := by decide +kernel
theorem dX11_rule_37 : decode cX11_rule 37 = .ok (.aload_n 0, 1) := by decide +kernel
theorem dX11_rule_38 : decode cX11_rule 38 = .ok (.getfield 13, 3) := by decide +kernel
theorem dX11_rule_41 : decode cX11_rule 41 = .ok (.iconst 5, 1) := by decide +kernel
theorem dX11_rule_42 : decode cX11_rule 42 = .ok (.iload_n 1, 1) := by decide +kernel
theorem dX11_rule_43 : decode cX11_rule 43 = .ok (.iadd, 1) := by decide +kernel
theorem dX11_rule_44 : decode cX11_rule 44 = .ok (.iload_n 3, 1) := by decide +kernel
theorem dX11_rule_45 : decode cX11_rule 45 = .ok (.iastore, 1) := by decide +kernel
theorem dX11_rule_46 : decode cX11_rule 46 = .ok (.aload_n 0, 1) := by decide +kernel
theorem dX11_rule_47 : decode cX11_rule 47 = .ok (.getfield 13, 3) := by decide +kernel
theorem dX11_rule_50 : decode cX11_rule 50 = .ok (.bipush 9, 2) := by decide +kernel
theorem dX11_rule_52 : decode cX11_rule 52 = .ok (.iload_n 1, 1) := by decide +kernel
theorem dX11_rule_53 : decode cX11_rule 53 = .ok (.iadd, 1) := by decide +kernel
theorem dX11_rule_54 : decode cX11_rule 54 = .ok (.iload 4, 2) := by decide +kernel
theorem dX11_rule_56 : decode cX11_rule 56 = .ok (.iastore, 1) := by decide +kernel
theorem dX11_rule_57 : decode cX11_rule 57 = .ok (.aload_n 0, 1) := by decide +kernel
theorem dX11_rule_58 : decode cX11_rule 58 = .ok (.invokevirtual 233, 3) := by decide +kernel
theorem dX11_rule_61 : decode cX11_rule 61 = .ok (.ireturn, 1) := by decide +kernel
def Mo_rule (fl : Nat) (a0 : Int32) (a1 : Int32) (a2 : Int32) (a3 : Int32) (S : gm_M) : Option (Int32 × gm_M) :=
  gm_bp1 (Mo_isRule a0 S) fun v1 =>
  if v1 = 0 then (
    some ((-1000000001), S)
  ) else (
    gm_bp1 (Mo_areOf a1 a2 a3) fun v3 =>
    if v3 = 0 then (
      some ((-1000000002), S)
    ) else (
      gm_bp1 (Mo_remember fl S) fun S5 =>
      gm_ck (1 + a0) 42 <|
      gm_lt (α := gm_M) (gm_ui S5 2 ((1 + a0).toNatClampNeg) a1) fun S7 =>
      gm_ck (5 + a0) 42 <|
      gm_lt (α := gm_M) (gm_ui S7 2 ((5 + a0).toNatClampNeg) a2) fun S9 =>
      gm_ck (9 + a0) 42 <|
      gm_lt (α := gm_M) (gm_ui S9 2 ((9 + a0).toNatClampNeg) a3) fun S11 =>
      gm_bp1 (Mo_allLucky fl S11) fun v12 =>
      some (v12, S11)
    )
  )
set_option maxHeartbeats 4000000 in
set_option maxRecDepth 100000 in
theorem Mo_rule_c (l : Launch) (cf : gm_C) (ad : Nat → Nat) {fl : Nat}   {a0 : Int32} {a1 : Int32} {a2 : Int32} {a3 : Int32} {S : gm_M} {r : Int32} {S'  : gm_M} (hf : Mo_rule fl a0 a1 a2 a3 S = some (r, S')) : gm_Met l yX11_rule cX11_rule 5 (some .int) 7 165 cf ad gm_sM 17 [.ref (ad 0), .int a0, .int a1, .int a2, .int a3] S (some (.int r)) S' := by
  refine gm_met (by decide +kernel) (Nat.le_of_ble_eq_true rfl) ?_
  intro p e s m args below meth c C hr
  have C : gm_F p s m args meth c cf ad 17 cX11_rule 5 RX11 := C
  refine gm_lve (lv' := [(0, .ref (ad 0)), (1, .int a0), (2, .int a1), (3, .int a2), (4, .int a3)]) rfl ?_
  unfold Mo_rule at hf
  refine gm_aload_n C dX11_rule_0 rfl 0 rfl ?_
  refine gm_iload_n C dX11_rule_1 rfl 1 rfl ?_
  obtain ⟨v1, ev1, hf⟩ := gm_bp1_s hf
  refine gm_callVi (As := [.int a0]) C (Mo_isRule_c l cf ad ev1) (Nat.le_of_ble_eq_true rfl) rfl kc_11 wy_Mo_isRule rfl wl_1130 rfl ⟨(Nat.le_of_ble_eq_true rfl), (Nat.le_of_ble_eq_true rfl)⟩ rfl (Nat.le_of_ble_eq_true rfl) dX11_rule_2 ?_
  refine gm_if_ne C 11 dX11_rule_5 (by decide) (fun c2 => ?_) (fun c2 => ?_)
  · have hf := gm_if _ c2 hf
    refine gm_iload_n C dX11_rule_11 rfl 2 rfl ?_
    refine gm_iload_n C dX11_rule_12 rfl 3 rfl ?_
    refine gm_iload C dX11_rule_13 4 rfl ?_
    obtain ⟨v3, ev3, hf⟩ := gm_bp1_s hf
    refine gm_callSi (As := [.int a1, .int a2, .int a3]) C (Mo_areOf_c l cf ad ev3 (S := S)) wy_Mo_areOf wl_1009 rfl ⟨(Nat.le_of_ble_eq_true rfl), (Nat.le_of_ble_eq_true rfl)⟩ rfl (Nat.le_of_ble_eq_true rfl) dX11_rule_15 ?_
    refine gm_if_ne C 24 dX11_rule_18 (by decide) (fun c4 => ?_) (fun c4 => ?_)
    · have hf := gm_if _ c4 hf
      refine gm_aload_n C dX11_rule_24 rfl 0 rfl ?_
      obtain ⟨S5, eS5, hf⟩ := gm_bp1_s hf
      refine gm_callVv (As := []) C (Mo_remember_c l cf ad eS5) (Nat.le_of_ble_eq_true rfl) rfl kc_11 wy_Mo_remember rfl wl_1176 rfl ⟨(Nat.le_of_ble_eq_true rfl), (Nat.le_of_ble_eq_true rfl)⟩ rfl (Nat.le_of_ble_eq_true rfl) dX11_rule_25 ?_
      refine gm_aload_n C dX11_rule_28 rfl 0 rfl ?_
      refine gm_getr (j := 2) (u := 2) C (Nat.le_of_ble_eq_true rfl) rfl kc_11 (k := 6) rfl (by decide) rfl rfl wl_846 dX11_rule_29 ?_
      refine gm_iconst (v := 1) C dX11_rule_32 (by decide) ?_
      refine gm_iload_n C dX11_rule_33 rfl 1 rfl ?_
      refine gm_iadd C dX11_rule_34 ?_
      refine gm_iload_n C dX11_rule_35 rfl 2 rfl ?_
      obtain ⟨h6, hf⟩ := gm_ck_s hf
      refine gm_iast C (Nat.le_of_ble_eq_true rfl) rfl rfl h6 dX11_rule_36 ?_
      obtain ⟨S7, eS7, hf⟩ := gm_lt_s hf
      refine gm_topm eS7 ?_
      refine gm_aload_n C dX11_rule_37 rfl 0 rfl ?_
      refine gm_getr (j := 2) (u := 2) C (Nat.le_of_ble_eq_true rfl) rfl kc_11 (k := 6) rfl (by decide) rfl rfl wl_846 dX11_rule_38 ?_
      refine gm_iconst (v := 5) C dX11_rule_41 (by decide) ?_
      refine gm_iload_n C dX11_rule_42 rfl 1 rfl ?_
      refine gm_iadd C dX11_rule_43 ?_
      refine gm_iload_n C dX11_rule_44 rfl 3 rfl ?_
      obtain ⟨h8, hf⟩ := gm_ck_s hf
      refine gm_iast C (Nat.le_of_ble_eq_true rfl) rfl rfl h8 dX11_rule_45 ?_
      obtain ⟨S9, eS9, hf⟩ := gm_lt_s hf
      refine gm_topm eS9 ?_
      refine gm_aload_n C dX11_rule_46 rfl 0 rfl ?_
      refine gm_getr (j := 2) (u := 2) C (Nat.le_of_ble_eq_true rfl) rfl kc_11 (k := 6) rfl (by decide) rfl rfl wl_846 dX11_rule_47 ?_
      refine gm_bipush (v := 9) C dX11_rule_50 (by decide) ?_
      refine gm_iload_n C dX11_rule_52 rfl 1 rfl ?_
      refine gm_iadd C dX11_rule_53 ?_
      refine gm_iload C dX11_rule_54 4 rfl ?_
      obtain ⟨h10, hf⟩ := gm_ck_s hf
      refine gm_iast C (Nat.le_of_ble_eq_true rfl) rfl rfl h10 dX11_rule_56 ?_
      obtain ⟨S11, eS11, hf⟩ := gm_lt_s hf
      refine gm_topm eS11 ?_
      refine gm_aload_n C dX11_rule_57 rfl 0 rfl ?_
      obtain ⟨v12, ev12, hf⟩ := gm_bp1_s hf
      refine gm_callVi (As := []) C (Mo_allLucky_c l cf ad ev12) (Nat.le_of_ble_eq_true rfl) rfl kc_11 wy_Mo_allLucky rfl wl_1038 rfl ⟨(Nat.le_of_ble_eq_true rfl), (Nat.le_of_ble_eq_true rfl)⟩ rfl (Nat.le_of_ble_eq_true rfl) dX11_rule_58 ?_
      exact gm_iret C hr rfl dX11_rule_61 hf
    · have hf := gm_it _ c4 hf
      refine gm_ldc (v := (-1000000002)) C wl_960 dX11_rule_21 ?_
      exact gm_iret C hr rfl dX11_rule_23 hf
  · have hf := gm_it _ c2 hf
    refine gm_ldc (v := (-1000000001)) C wl_1134 dX11_rule_8 ?_
    exact gm_iret C hr rfl dX11_rule_10 hf
theorem dX11_mode_0 : decode cX11_mode 0 = .ok (.iload_n 1, 1) := by decide +kernel
theorem dX11_mode_1 : decode cX11_mode 1 = .ok (.i2l, 1) := by decide +kernel
theorem dX11_mode_2 : decode cX11_mode 2 = .ok (.lconst 0, 1) := by decide +kernel
theorem dX11_mode_3 : decode cX11_mode 3 = .ok (.lconst 1, 1) := by decide +kernel
theorem dX11_mode_4 : decode cX11_mode 4 = .ok (.invokestatic 69, 3) := by decide +kernel
theorem dX11_mode_7 : decode cX11_mode 7 = .ok (.ifCond .ne 6, 3) := by decide +kernel
theorem dX11_mode_10 : decode cX11_mode 10 = .ok (.ldc 96, 2) := by decide +kernel
theorem dX11_mode_12 : decode cX11_mode 12 = .ok (.ireturn, 1) := by decide +kernel
theorem dX11_mode_13 : decode cX11_mode 13 = .ok (.aload_n 0, 1) := by decide +kernel
theorem dX11_mode_14 : decode cX11_mode 14 = .ok (.getfield 63, 3) := by decide +kernel
theorem dX11_mode_17 : decode cX11_mode 17 = .ok (.ifCond .eq 13, 3) := by decide +kernel
theorem dX11_mode_20 : decode cX11_mode 20 = .ok (.aload_n 0, 1) := by decide +kernel
theorem dX11_mode_21 : decode cX11_mode 21 = .ok (.getfield 13, 3) := by decide +kernel
theorem dX11_mode_24 : decode cX11_mode 24 = .ok (.iconst 0, 1) := by decide +kernel
theorem dX11_mode_25 : decode cX11_mode 25 = .ok (.iaload, 1) := by decide +kernel
theorem dX11_mode_26 : decode cX11_mode 26 = .ok (.iload_n 1, 1) := by decide +kernel
theorem dX11_mode_27 : decode cX11_mode 27 = .ok (.if_icmp .ne 7, 3) := by decide +kernel
theorem dX11_mode_30 : decode cX11_mode 30 = .ok (.ldc_w 272, 3) := by decide +kernel
theorem dX11_mode_33 : decode cX11_mode 33 = .ok (.ireturn, 1) := by decide +kernel
theorem dX11_mode_34 : decode cX11_mode 34 = .ok (.aload_n 0, 1) := by decide +kernel
theorem dX11_mode_35 : decode cX11_mode 35 = .ok (.invokevirtual 273, 3) := by decide +kernel
theorem dX11_mode_38 : decode cX11_mode 38 = .ok (.aload_n 0, 1) := by decide +kernel
theorem dX11_mode_39 : decode cX11_mode 39 = .ok (.getfield 13, 3) := by decide +kernel
theorem dX11_mode_42 : decode cX11_mode 42 = .ok (.iconst 0, 1) := by decide +kernel
theorem dX11_mode_43 : decode cX11_mode 43 = .ok (.iload_n 1, 1) := by decide +kernel
theorem dX11_mode_44 : decode cX11_mode 44 = .ok (.iastore, 1) := by decide +kernel
theorem dX11_mode_45 : decode cX11_mode 45 = .ok (.aload_n 0, 1) := by decide +kernel
theorem dX11_mode_46 : decode cX11_mode 46 = .ok (.invokevirtual 233, 3) := by decide +kernel
theorem dX11_mode_49 : decode cX11_mode 49 = .ok (.ireturn, 1) := by decide +kernel
def Mo_mode (fl : Nat) (a0 : Int32) (S : gm_M) : Option (Int32 × gm_M) :=
  gm_bp1 (Mo_in ((a0 : Int32).toInt64) 0 1) fun v1 =>
  if v1 = 0 then (
    some ((-1000000002), S)
  ) else (
    if S.1 0 0 = 0 then (
      some ((-1000000003), S)
    ) else (
      gm_ck (0) 42 <|
      if S.1 2 (0 : Int32).toNatClampNeg = a0 then (
        some ((-1000000003), S)
      ) else (
        gm_bp1 (Mo_remember fl S) fun S6 =>
        gm_ck (0) 42 <|
        gm_lt (α := gm_M) (gm_ui S6 2 ((0 : Int32).toNatClampNeg) a0) fun S8 =>
        gm_bp1 (Mo_allLucky fl S8) fun v9 =>
        some (v9, S8)
      )
    )
  )
set_option maxHeartbeats 4000000 in
set_option maxRecDepth 100000 in
theorem Mo_mode_c (l : Launch) (cf : gm_C) (ad : Nat → Nat) {fl : Nat}   {a0 : Int32} {S : gm_M} {r : Int32} {S'  : gm_M} (hf : Mo_mode fl a0 S = some (r, S')) : gm_Met l yX11_mode cX11_mode 2 (some .int) 7 165 cf ad gm_sM 17 [.ref (ad 0), .int a0] S (some (.int r)) S' := by
  refine gm_met (by decide +kernel) (Nat.le_of_ble_eq_true rfl) ?_
  intro p e s m args below meth c C hr
  have C : gm_F p s m args meth c cf ad 17 cX11_mode 2 RX11 := C
  refine gm_lve (lv' := [(0, .ref (ad 0)), (1, .int a0)]) rfl ?_
  unfold Mo_mode at hf
  refine gm_iload_n C dX11_mode_0 rfl 1 rfl ?_
  refine gm_i2l C dX11_mode_1 rfl ?_
  refine gm_lconst (v := 0) C dX11_mode_2 (by decide) ?_
  refine gm_lconst (v := 1) C dX11_mode_3 (by decide) ?_
  obtain ⟨v1, ev1, hf⟩ := gm_bp1_s hf
  refine gm_callSi (As := [.long ((a0 : Int32).toInt64), .long 0, .long 1]) C (Mo_in_c l cf ad ev1 (S := S)) wy_Mo_in wl_957 rfl ⟨(Nat.le_of_ble_eq_true rfl), (Nat.le_of_ble_eq_true rfl)⟩ rfl (Nat.le_of_ble_eq_true rfl) dX11_mode_4 ?_
  refine gm_if_ne C 13 dX11_mode_7 (by decide) (fun c2 => ?_) (fun c2 => ?_)
  · have hf := gm_if _ c2 hf
    refine gm_aload_n C dX11_mode_13 rfl 0 rfl ?_
    refine gm_geti C (Nat.le_of_ble_eq_true rfl) rfl kc_11 (k := 0) rfl (by decide) rfl wl_840 dX11_mode_14 ?_
    refine gm_if_eq C 30 dX11_mode_17 (by decide) (fun c3 => ?_) (fun c3 => ?_)
    · have hf := gm_it _ c3 hf
      refine gm_ldcw (v := (-1000000003)) C wl_1175 dX11_mode_30 ?_
      exact gm_iret C hr rfl dX11_mode_33 hf
    · have hf := gm_if _ c3 hf
      refine gm_aload_n C dX11_mode_20 rfl 0 rfl ?_
      refine gm_getr (j := 2) (u := 2) C (Nat.le_of_ble_eq_true rfl) rfl kc_11 (k := 6) rfl (by decide) rfl rfl wl_846 dX11_mode_21 ?_
      refine gm_iconst (v := 0) C dX11_mode_24 (by decide) ?_
      obtain ⟨h4, hf⟩ := gm_ck_s hf
      refine gm_iald C (Nat.le_of_ble_eq_true rfl) rfl rfl h4 dX11_mode_25 ?_
      refine gm_iload_n C dX11_mode_26 rfl 1 rfl ?_
      refine gm_icmp_ne C 34 dX11_mode_27 (by decide) (fun c5 => ?_) (fun c5 => ?_)
      · have hf := gm_if _ c5 hf
        refine gm_aload_n C dX11_mode_34 rfl 0 rfl ?_
        obtain ⟨S6, eS6, hf⟩ := gm_bp1_s hf
        refine gm_callVv (As := []) C (Mo_remember_c l cf ad eS6) (Nat.le_of_ble_eq_true rfl) rfl kc_11 wy_Mo_remember rfl wl_1176 rfl ⟨(Nat.le_of_ble_eq_true rfl), (Nat.le_of_ble_eq_true rfl)⟩ rfl (Nat.le_of_ble_eq_true rfl) dX11_mode_35 ?_
        refine gm_aload_n C dX11_mode_38 rfl 0 rfl ?_
        refine gm_getr (j := 2) (u := 2) C (Nat.le_of_ble_eq_true rfl) rfl kc_11 (k := 6) rfl (by decide) rfl rfl wl_846 dX11_mode_39 ?_
        refine gm_iconst (v := 0) C dX11_mode_42 (by decide) ?_
        refine gm_iload_n C dX11_mode_43 rfl 1 rfl ?_
        obtain ⟨h7, hf⟩ := gm_ck_s hf
        refine gm_iast C (Nat.le_of_ble_eq_true rfl) rfl rfl h7 dX11_mode_44 ?_
        obtain ⟨S8, eS8, hf⟩ := gm_lt_s hf
        refine gm_topm eS8 ?_
        refine gm_aload_n C dX11_mode_45 rfl 0 rfl ?_
        obtain ⟨v9, ev9, hf⟩ := gm_bp1_s hf
        refine gm_callVi (As := []) C (Mo_allLucky_c l cf ad ev9) (Nat.le_of_ble_eq_true rfl) rfl kc_11 wy_Mo_allLucky rfl wl_1038 rfl ⟨(Nat.le_of_ble_eq_true rfl), (Nat.le_of_ble_eq_true rfl)⟩ rfl (Nat.le_of_ble_eq_true rfl) dX11_mode_46 ?_
        exact gm_iret C hr rfl dX11_mode_49 hf
      · have hf := gm_it _ c5 hf
        refine gm_ldcw (v := (-1000000003)) C wl_1175 dX11_mode_30 ?_
        exact gm_iret C hr rfl dX11_mode_33 hf
  · have hf := gm_it _ c2 hf
    refine gm_ldc (v := (-1000000002)) C wl_960 dX11_mode_10 ?_
    exact gm_iret C hr rfl dX11_mode_12 hf
theorem dX11_roll_0 : decode cX11_roll 0 = .ok (.aload_n 0, 1) := by decide +kernel
theorem dX11_roll_1 : decode cX11_roll 1 = .ok (.iload_n 1, 1) := by decide +kernel
theorem dX11_roll_2 : decode cX11_roll 2 = .ok (.invokevirtual 252, 3) := by decide +kernel
theorem dX11_roll_5 : decode cX11_roll 5 = .ok (.ifCond .ne 6, 3) := by decide +kernel
theorem dX11_roll_8 : decode cX11_roll 8 = .ok (.ldc 251, 2) := by decide +kernel
theorem dX11_roll_10 : decode cX11_roll 10 = .ok (.ireturn, 1) := by decide +kernel
theorem dX11_roll_11 : decode cX11_roll 11 = .ok (.aload_n 0, 1) := by decide +kernel
theorem dX11_roll_12 : decode cX11_roll 12 = .ok (.iload_n 2, 1) := by decide +kernel
theorem dX11_roll_13 : decode cX11_roll 13 = .ok (.invokevirtual 265, 3) := by decide +kernel
theorem dX11_roll_16 : decode cX11_roll 16 = .ok (.ifCond .eq 15, 3) := by decide +kernel
theorem dX11_roll_19 : decode cX11_roll 19 = .ok (.iload_n 3, 1) := by decide +kernel
theorem dX11_roll_20 : decode cX11_roll 20 = .ok (.i2l, 1) := by decide +kernel
theorem dX11_roll_21 : decode cX11_roll 21 = .ok (.lconst 0, 1) := by decide +kernel
theorem dX11_roll_22 : decode cX11_roll 22 = .ok (.ldc2_w 281, 3) := by decide +kernel
theorem dX11_roll_25 : decode cX11_roll 25 = .ok (.invokestatic 69, 3) := by decide +kernel
theorem dX11_roll_28 : decode cX11_roll 28 = .ok (.ifCond .ne 6, 3) := by decide +kernel
theorem dX11_roll_31 : decode cX11_roll 31 = .ok (.ldc 96, 2) := by decide +kernel
theorem dX11_roll_33 : decode cX11_roll 33 = .ok (.ireturn, 1) := by decide +kernel
theorem dX11_roll_34 : decode cX11_roll 34 = .ok (.aload_n 0, 1) := by decide +kernel
theorem dX11_roll_35 : decode cX11_roll 35 = .ok (.invokevirtual 273, 3) := by decide +kernel
theorem dX11_roll_38 : decode cX11_roll 38 = .ok (.aload_n 0, 1) := by decide +kernel
theorem dX11_roll_39 : decode cX11_roll 39 = .ok (.getfield 13, 3) := by decide +kernel
theorem dX11_roll_42 : decode cX11_roll 42 = .ok (.bipush 17, 2) := by decide +kernel
theorem dX11_roll_44 : decode cX11_roll 44 = .ok (.iload_n 1, 1) := by decide +kernel
theorem dX11_roll_45 : decode cX11_roll 45 = .ok (.iadd, 1) := by decide +kernel
theorem dX11_roll_46 : decode cX11_roll 46 = .ok (.iaload, 1) := by decide +kernel
theorem dX11_roll_47 : decode cX11_roll 47 = .ok (.istore 4, 2) := by decide +kernel
theorem dX11_roll_49 : decode cX11_roll 49 = .ok (.aload_n 0, 1) := by decide +kernel
theorem dX11_roll_50 : decode cX11_roll 50 = .ok (.getfield 13, 3) := by decide +kernel
theorem dX11_roll_53 : decode cX11_roll 53 = .ok (.bipush 13, 2) := by decide +kernel
theorem dX11_roll_55 : decode cX11_roll 55 = .ok (.iload_n 1, 1) := by decide +kernel
theorem dX11_roll_56 : decode cX11_roll 56 = .ok (.iadd, 1) := by decide +kernel
theorem dX11_roll_57 : decode cX11_roll 57 = .ok (.iload_n 2, 1) := by decide +kernel
theorem dX11_roll_58 : decode cX11_roll 58 = .ok (.iastore, 1) := by decide +kernel
theorem dX11_roll_59 : decode cX11_roll 59 = .ok (.aload_n 0, 1) := by decide +kernel
theorem dX11_roll_60 : decode cX11_roll 60 = .ok (.getfield 13, 3) := by decide +kernel
theorem dX11_roll_63 : decode cX11_roll 63 = .ok (.bipush 17, 2) := by decide +kernel
theorem dX11_roll_65 : decode cX11_roll 65 = .ok (.iload_n 1, 1) := by decide +kernel
theorem dX11_roll_66 : decode cX11_roll 66 = .ok (.iadd, 1) := by decide +kernel
theorem dX11_roll_67 : decode cX11_roll 67 = .ok (.iload_n 3, 1) := by decide +kernel
theorem dX11_roll_68 : decode cX11_roll 68 = .ok (.iastore, 1) := by decide +kernel
theorem dX11_roll_69 : decode cX11_roll 69 = .ok (.iload 4, 2) := by decide +kernel
theorem dX11_roll_71 : decode cX11_roll 71 = .ok (.ireturn, 1) := by decide +kernel
def Mo_roll (fl : Nat) (a0 : Int32) (a1 : Int32) (a2 : Int32) (S : gm_M) : Option (Int32 × gm_M) :=
  gm_bp1 (Mo_isRoll a0 S) fun v1 =>
  if v1 = 0 then (
    some ((-1000000001), S)
  ) else (
    gm_bp1 (Mo_isNumber a1 S) fun v3 =>
    if v3 = 0 then (
      some ((-1000000002), S)
    ) else (
      gm_bp1 (Mo_in ((a2 : Int32).toInt64) 0 200) fun v5 =>
      if v5 = 0 then (
        some ((-1000000002), S)
      ) else (
        gm_bp1 (Mo_remember fl S) fun S7 =>
        gm_ck (17 + a0) 42 <|
        gm_lt (α := Int32) (S7.1 2 (17 + a0).toNatClampNeg) fun x9 =>
        gm_ck (13 + a0) 42 <|
        gm_lt (α := gm_M) (gm_ui S7 2 ((13 + a0).toNatClampNeg) a1) fun S11 =>
        gm_ck (17 + a0) 42 <|
        gm_lt (α := gm_M) (gm_ui S11 2 ((17 + a0).toNatClampNeg) a2) fun S13 =>
        some (x9, S13)
      )
    )
  )
set_option maxHeartbeats 4000000 in
set_option maxRecDepth 100000 in
theorem Mo_roll_c (l : Launch) (cf : gm_C) (ad : Nat → Nat) {fl : Nat}   {a0 : Int32} {a1 : Int32} {a2 : Int32} {S : gm_M} {r : Int32} {S'  : gm_M} (hf : Mo_roll fl a0 a1 a2 S = some (r, S')) : gm_Met l yX11_roll cX11_roll 5 (some .int) 2 46 cf ad gm_sM 17 [.ref (ad 0), .int a0, .int a1, .int a2] S (some (.int r)) S' := by
  refine gm_met (by decide +kernel) (Nat.le_of_ble_eq_true rfl) ?_
  intro p e s m args below meth c C hr
  have C : gm_F p s m args meth c cf ad 17 cX11_roll 5 RX11 := C
  refine gm_lve (lv' := [(0, .ref (ad 0)), (1, .int a0), (2, .int a1), (3, .int a2)]) rfl ?_
  unfold Mo_roll at hf
  refine gm_aload_n C dX11_roll_0 rfl 0 rfl ?_
  refine gm_iload_n C dX11_roll_1 rfl 1 rfl ?_
  obtain ⟨v1, ev1, hf⟩ := gm_bp1_s hf
  refine gm_callVi (As := [.int a0]) C (Mo_isRoll_c l cf ad ev1) (Nat.le_of_ble_eq_true rfl) rfl kc_11 wy_Mo_isRoll rfl wl_1139 rfl ⟨(Nat.le_of_ble_eq_true rfl), (Nat.le_of_ble_eq_true rfl)⟩ rfl (Nat.le_of_ble_eq_true rfl) dX11_roll_2 ?_
  refine gm_if_ne C 11 dX11_roll_5 (by decide) (fun c2 => ?_) (fun c2 => ?_)
  · have hf := gm_if _ c2 hf
    refine gm_aload_n C dX11_roll_11 rfl 0 rfl ?_
    refine gm_iload_n C dX11_roll_12 rfl 2 rfl ?_
    obtain ⟨v3, ev3, hf⟩ := gm_bp1_s hf
    refine gm_callVi (As := [.int a1]) C (Mo_isNumber_c l cf ad ev3) (Nat.le_of_ble_eq_true rfl) rfl kc_11 wy_Mo_isNumber rfl wl_1167 rfl ⟨(Nat.le_of_ble_eq_true rfl), (Nat.le_of_ble_eq_true rfl)⟩ rfl (Nat.le_of_ble_eq_true rfl) dX11_roll_13 ?_
    refine gm_if_eq C 31 dX11_roll_16 (by decide) (fun c4 => ?_) (fun c4 => ?_)
    · have hf := gm_it _ c4 hf
      refine gm_ldc (v := (-1000000002)) C wl_960 dX11_roll_31 ?_
      exact gm_iret C hr rfl dX11_roll_33 hf
    · have hf := gm_if _ c4 hf
      refine gm_iload_n C dX11_roll_19 rfl 3 rfl ?_
      refine gm_i2l C dX11_roll_20 rfl ?_
      refine gm_lconst (v := 0) C dX11_roll_21 (by decide) ?_
      refine gm_ldc2 (v := 200) C wl_1209 dX11_roll_22 ?_
      obtain ⟨v5, ev5, hf⟩ := gm_bp1_s hf
      refine gm_callSi (As := [.long ((a2 : Int32).toInt64), .long 0, .long 200]) C (Mo_in_c l cf ad ev5 (S := S)) wy_Mo_in wl_957 rfl ⟨(Nat.le_of_ble_eq_true rfl), (Nat.le_of_ble_eq_true rfl)⟩ rfl (Nat.le_of_ble_eq_true rfl) dX11_roll_25 ?_
      refine gm_if_ne C 34 dX11_roll_28 (by decide) (fun c6 => ?_) (fun c6 => ?_)
      · have hf := gm_if _ c6 hf
        refine gm_aload_n C dX11_roll_34 rfl 0 rfl ?_
        obtain ⟨S7, eS7, hf⟩ := gm_bp1_s hf
        refine gm_callVv (As := []) C (Mo_remember_c l cf ad eS7) (Nat.le_of_ble_eq_true rfl) rfl kc_11 wy_Mo_remember rfl wl_1176 rfl ⟨(Nat.le_of_ble_eq_true rfl), (Nat.le_of_ble_eq_true rfl)⟩ rfl (Nat.le_of_ble_eq_true rfl) dX11_roll_35 ?_
        refine gm_aload_n C dX11_roll_38 rfl 0 rfl ?_
        refine gm_getr (j := 2) (u := 2) C (Nat.le_of_ble_eq_true rfl) rfl kc_11 (k := 6) rfl (by decide) rfl rfl wl_846 dX11_roll_39 ?_
        refine gm_bipush (v := 17) C dX11_roll_42 (by decide) ?_
        refine gm_iload_n C dX11_roll_44 rfl 1 rfl ?_
        refine gm_iadd C dX11_roll_45 ?_
        obtain ⟨h8, hf⟩ := gm_ck_s hf
        refine gm_iald C (Nat.le_of_ble_eq_true rfl) rfl rfl h8 dX11_roll_46 ?_
        obtain ⟨x9, ex9, hf⟩ := gm_lt_s hf
        refine gm_topi ex9 ?_
        refine gm_istore (lv' := [(4, .int x9), (0, .ref (ad 0)), (1, .int a0), (2, .int a1), (3, .int a2)]) C dX11_roll_47 (by decide) rfl ?_
        refine gm_aload_n C dX11_roll_49 rfl 1 rfl ?_
        refine gm_getr (j := 2) (u := 2) C (Nat.le_of_ble_eq_true rfl) rfl kc_11 (k := 6) rfl (by decide) rfl rfl wl_846 dX11_roll_50 ?_
        refine gm_bipush (v := 13) C dX11_roll_53 (by decide) ?_
        refine gm_iload_n C dX11_roll_55 rfl 2 rfl ?_
        refine gm_iadd C dX11_roll_56 ?_
        refine gm_iload_n C dX11_roll_57 rfl 3 rfl ?_
        obtain ⟨h10, hf⟩ := gm_ck_s hf
        refine gm_iast C (Nat.le_of_ble_eq_true rfl) rfl rfl h10 dX11_roll_58 ?_
        obtain ⟨S11, eS11, hf⟩ := gm_lt_s hf
        refine gm_topm eS11 ?_
        refine gm_aload_n C dX11_roll_59 rfl 1 rfl ?_
        refine gm_getr (j := 2) (u := 2) C (Nat.le_of_ble_eq_true rfl) rfl kc_11 (k := 6) rfl (by decide) rfl rfl wl_846 dX11_roll_60 ?_
        refine gm_bipush (v := 17) C dX11_roll_63 (by decide) ?_
        refine gm_iload_n C dX11_roll_65 rfl 2 rfl ?_
        refine gm_iadd C dX11_roll_66 ?_
        refine gm_iload_n C dX11_roll_67 rfl 4 rfl ?_
        obtain ⟨h12, hf⟩ := gm_ck_s hf
        refine gm_iast C (Nat.le_of_ble_eq_true rfl) rfl rfl h12 dX11_roll_68 ?_
        obtain ⟨S13, eS13, hf⟩ := gm_lt_s hf
        refine gm_topm eS13 ?_
        refine gm_iload C dX11_roll_69 0 rfl ?_
        exact gm_iret C hr rfl dX11_roll_71 hf
      · have hf := gm_it _ c6 hf
        refine gm_ldc (v := (-1000000002)) C wl_960 dX11_roll_31 ?_
        exact gm_iret C hr rfl dX11_roll_33 hf
  · have hf := gm_it _ c2 hf
    refine gm_ldc (v := (-1000000001)) C wl_1134 dX11_roll_8 ?_
    exact gm_iret C hr rfl dX11_roll_10 hf
theorem dX11_draw_0 : decode cX11_draw 0 = .ok (.aload_n 0, 1) := by decide +kernel
theorem dX11_draw_1 : decode cX11_draw 1 = .ok (.aload_n 0, 1) := by decide +kernel
theorem dX11_draw_2 : decode cX11_draw 2 = .ok (.getfield 283, 3) := by decide +kernel
theorem dX11_draw_5 : decode cX11_draw 5 = .ok (.i2l, 1) := by decide +kernel
theorem dX11_draw_6 : decode cX11_draw 6 = .ok (.ldc2_w 286, 3) := by decide +kernel
theorem dX11_draw_9 : decode cX11_draw 9 = .ok (.lmul, 1) := by decide +kernel
theorem dX11_draw_10 : decode cX11_draw 10 = .ok (.ldc2_w 288, 3) := by decide +kernel
theorem dX11_draw_13 : decode cX11_draw 13 = .ok (.ladd, 1) := by decide +kernel
theorem dX11_draw_14 : decode cX11_draw 14 = .ok (.ldc2_w 290, 3) := by decide +kernel
theorem dX11_draw_17 : decode cX11_draw 17 = .ok (.lrem, 1) := by decide +kernel
theorem dX11_draw_18 : decode cX11_draw 18 = .ok (.l2i, 1) := by decide +kernel
theorem dX11_draw_19 : decode cX11_draw 19 = .ok (.putfield 283, 3) := by decide +kernel
theorem dX11_draw_22 : decode cX11_draw 22 = .ok (.aload_n 0, 1) := by decide +kernel
theorem dX11_draw_23 : decode cX11_draw 23 = .ok (.getfield 283, 3) := by decide +kernel
theorem dX11_draw_26 : decode cX11_draw 26 = .ok (.ldc_w 292, 3) := by decide +kernel
theorem dX11_draw_29 : decode cX11_draw 29 = .ok (.idiv, 1) := by decide +kernel
theorem dX11_draw_30 : decode cX11_draw 30 = .ok (.iload_n 1, 1) := by decide +kernel
theorem dX11_draw_31 : decode cX11_draw 31 = .ok (.irem, 1) := by decide +kernel
theorem dX11_draw_32 : decode cX11_draw 32 = .ok (.ireturn, 1) := by decide +kernel
def Mo_draw (a0 : Int32) (S : gm_M) : Option (Int32 × gm_M) :=
  gm_lt (α := gm_M) (gm_ui S 0 7 ((gm_rml ((((S.1 0 7 : Int32).toInt64) * 1103515245) + 12345) 2147483648 : Int64).toInt32)) fun S1 =>
  if a0 = 0 then none else
  some (gm_rm ((S1.1 0 7) / 65536) a0, S1)
set_option maxHeartbeats 4000000 in
set_option maxRecDepth 100000 in
theorem Mo_draw_c (l : Launch) (cf : gm_C) (ad : Nat → Nat)    {a0 : Int32} {S : gm_M} {r : Int32} {S'  : gm_M} (hf : Mo_draw a0 S = some (r, S')) : gm_Met l yX11_draw cX11_draw 2 (some .int) 0 0 cf ad gm_sM 17 [.ref (ad 0), .int a0] S (some (.int r)) S' := by
  refine gm_met (by decide +kernel) (Nat.le_of_ble_eq_true rfl) ?_
  intro p e s m args below meth c C hr
  have C : gm_F p s m args meth c cf ad 17 cX11_draw 2 RX11 := C
  refine gm_lve (lv' := [(0, .ref (ad 0)), (1, .int a0)]) rfl ?_
  unfold Mo_draw at hf
  refine gm_aload_n C dX11_draw_0 rfl 0 rfl ?_
  refine gm_aload_n C dX11_draw_1 rfl 0 rfl ?_
  refine gm_geti C (Nat.le_of_ble_eq_true rfl) rfl kc_11 (k := 7) rfl (by decide) rfl wl_847 dX11_draw_2 ?_
  refine gm_i2l C dX11_draw_5 rfl ?_
  refine gm_ldc2 (v := 1103515245) C wl_1222 dX11_draw_6 ?_
  refine gm_lmul C dX11_draw_9 ?_
  refine gm_ldc2 (v := 12345) C wl_1223 dX11_draw_10 ?_
  refine gm_ladd C dX11_draw_13 ?_
  refine gm_ldc2 (v := 2147483648) C wl_1224 dX11_draw_14 ?_
  refine gm_lrem C dX11_draw_17 (by decide) ?_
  refine gm_l2i C dX11_draw_18 rfl ?_
  refine gm_puti C (Nat.le_of_ble_eq_true rfl) rfl kc_11 (k := 7) rfl (by decide) rfl rfl (kc_11.2.2.2.1 7 (by decide)) rfl rfl wl_847 dX11_draw_19 ?_
  obtain ⟨S1, eS1, hf⟩ := gm_lt_s hf
  refine gm_topm eS1 ?_
  refine gm_aload_n C dX11_draw_22 rfl 0 rfl ?_
  refine gm_geti C (Nat.le_of_ble_eq_true rfl) rfl kc_11 (k := 7) rfl (by decide) rfl wl_847 dX11_draw_23 ?_
  refine gm_ldcw (v := 65536) C wl_1225 dX11_draw_26 ?_
  refine gm_idiv C dX11_draw_29 (by decide) ?_
  refine gm_iload_n C dX11_draw_30 rfl 1 rfl ?_
  obtain ⟨h2, hf⟩ := gm_iz _ hf
  refine gm_irem C dX11_draw_31 h2 ?_
  exact gm_iret C hr rfl dX11_draw_32 hf
theorem dX11_chance_0 : decode cX11_chance 0 = .ok (.aload_n 0, 1) := by decide +kernel
theorem dX11_chance_1 : decode cX11_chance 1 = .ok (.iconst 4, 1) := by decide +kernel
theorem dX11_chance_2 : decode cX11_chance 2 = .ok (.invokevirtual 293, 3) := by decide +kernel
theorem dX11_chance_5 : decode cX11_chance 5 = .ok (.istore_n 1, 1) := by decide +kernel
theorem dX11_chance_6 : decode cX11_chance 6 = .ok (.aload_n 0, 1) := by decide +kernel
theorem dX11_chance_7 : decode cX11_chance 7 = .ok (.aload_n 0, 1) := by decide +kernel
theorem dX11_chance_8 : decode cX11_chance 8 = .ok (.getfield 73, 3) := by decide +kernel
theorem dX11_chance_11 : decode cX11_chance 11 = .ok (.invokevirtual 293, 3) := by decide +kernel
theorem dX11_chance_14 : decode cX11_chance 14 = .ok (.istore_n 2, 1) := by decide +kernel
theorem dX11_chance_15 : decode cX11_chance 15 = .ok (.aload_n 0, 1) := by decide +kernel
theorem dX11_chance_16 : decode cX11_chance 16 = .ok (.aload_n 0, 1) := by decide +kernel
theorem dX11_chance_17 : decode cX11_chance 17 = .ok (.getfield 76, 3) := by decide +kernel
theorem dX11_chance_20 : decode cX11_chance 20 = .ok (.invokevirtual 293, 3) := by decide +kernel
theorem dX11_chance_23 : decode cX11_chance 23 = .ok (.istore_n 3, 1) := by decide +kernel
theorem dX11_chance_24 : decode cX11_chance 24 = .ok (.iload_n 1, 1) := by decide +kernel
theorem dX11_chance_25 : decode cX11_chance 25 = .ok (.iconst 3, 1) := by decide +kernel
theorem dX11_chance_26 : decode cX11_chance 26 = .ok (.if_icmp .ne 36, 3) := by decide +kernel
theorem dX11_chance_29 : decode cX11_chance 29 = .ok (.aload_n 0, 1) := by decide +kernel
theorem dX11_chance_30 : decode cX11_chance 30 = .ok (.getfield 13, 3) := by decide +kernel
theorem dX11_chance_33 : decode cX11_chance 33 = .ok (.bipush 13, 2) := by decide +kernel
theorem dX11_chance_35 : decode cX11_chance 35 = .ok (.iload_n 2, 1) := by decide +kernel
theorem dX11_chance_36 : decode cX11_chance 36 = .ok (.iadd, 1) := by decide +kernel
theorem dX11_chance_37 : decode cX11_chance 37 = .ok (.aload_n 0, 1) := by decide +kernel
theorem dX11_chance_38 : decode cX11_chance 38 = .ok (.aload_n 0, 1) := by decide +kernel
theorem dX11_chance_39 : decode cX11_chance 39 = .ok (.getfield 79, 3) := by decide +kernel
theorem dX11_chance_42 : decode cX11_chance 42 = .ok (.iconst 1, 1) := by decide +kernel
theorem dX11_chance_43 : decode cX11_chance 43 = .ok (.iadd, 1) := by decide +kernel
theorem dX11_chance_44 : decode cX11_chance 44 = .ok (.invokevirtual 293, 3) := by decide +kernel
theorem dX11_chance_47 : decode cX11_chance 47 = .ok (.iastore, 1) := by decide +kernel
theorem dX11_chance_48 : decode cX11_chance 48 = .ok (.aload_n 0, 1) := by decide +kernel
theorem dX11_chance_49 : decode cX11_chance 49 = .ok (.getfield 13, 3) := by decide +kernel
theorem dX11_chance_52 : decode cX11_chance 52 = .ok (.bipush 17, 2) := by decide +kernel
theorem dX11_chance_54 : decode cX11_chance 54 = .ok (.iload_n 2, 1) := by decide +kernel
theorem dX11_chance_55 : decode cX11_chance 55 = .ok (.iadd, 1) := by decide +kernel
theorem dX11_chance_56 : decode cX11_chance 56 = .ok (.bipush 50, 2) := by decide +kernel
theorem dX11_chance_58 : decode cX11_chance 58 = .ok (.iastore, 1) := by decide +kernel
theorem dX11_chance_59 : decode cX11_chance 59 = .ok (.goto 23, 3) := by decide +kernel
theorem dX11_chance_62 : decode cX11_chance 62 = .ok (.aload_n 0, 1) := by decide +kernel
theorem dX11_chance_63 : decode cX11_chance 63 = .ok (.getfield 13, 3) := by decide +kernel
theorem dX11_chance_66 : decode cX11_chance 66 = .ok (.bipush 17, 2) := by decide +kernel
theorem dX11_chance_68 : decode cX11_chance 68 = .ok (.iload_n 2, 1) := by decide +kernel
theorem dX11_chance_69 : decode cX11_chance 69 = .ok (.iadd, 1) := by decide +kernel
theorem dX11_chance_70 : decode cX11_chance 70 = .ok (.iaload, 1) := by decide +kernel
theorem dX11_chance_71 : decode cX11_chance 71 = .ok (.ifCond .le 11, 3) := by decide +kernel
theorem dX11_chance_74 : decode cX11_chance 74 = .ok (.aload_n 0, 1) := by decide +kernel
theorem dX11_chance_75 : decode cX11_chance 75 = .ok (.iload_n 2, 1) := by decide +kernel
theorem dX11_chance_76 : decode cX11_chance 76 = .ok (.iload_n 3, 1) := by decide +kernel
theorem dX11_chance_77 : decode cX11_chance 77 = .ok (.invokevirtual 276, 3) := by decide +kernel
theorem dX11_chance_80 : decode cX11_chance 80 = .ok (.istore 4, 2) := by decide +kernel
theorem dX11_chance_82 : decode cX11_chance 82 = .ok (.return_, 1) := by decide +kernel
def Mo_chance (fl : Nat) (S : gm_M) : Option gm_M :=
  gm_bp2 (Mo_draw 4 S) fun v1 S2 =>
  gm_bp2 (Mo_draw (S2.1 0 3) S2) fun v3 S4 =>
  gm_bp2 (Mo_draw (S4.1 0 4) S4) fun v5 S6 =>
  if v1 = 3 then (
    gm_bp2 (Mo_draw ((S6.1 0 1) + 1) S6) fun v12 S13 =>
    gm_ck (13 + v3) 42 <|
    gm_lt (α := gm_M) (gm_ui S13 2 ((13 + v3).toNatClampNeg) v12) fun S15 =>
    gm_ck (17 + v3) 42 <|
    gm_lt (α := gm_M) (gm_ui S15 2 ((17 + v3).toNatClampNeg) 50) fun S17 =>
    some S17
  ) else (
    gm_ck (17 + v3) 42 <|
    if S6.1 2 (17 + v3).toNatClampNeg ≤ 0 then (
      some S6
    ) else (
      gm_bp2 (Mo_sellNow fl v3 v5 S6) fun v10 S11 =>
      some S11
    )
  )
set_option maxHeartbeats 4000000 in
set_option maxRecDepth 100000 in
theorem Mo_chance_c (l : Launch) (cf : gm_C) (ad : Nat → Nat) {fl : Nat}    {S : gm_M}  {S'  : gm_M} (hf : Mo_chance fl S = some S') : gm_Met l yX11_chance cX11_chance 5 none 7 166 cf ad gm_sM 17 [.ref (ad 0)] S none S' := by
  refine gm_met (by decide +kernel) (Nat.le_of_ble_eq_true rfl) ?_
  intro p e s m args below meth c C hr
  have C : gm_F p s m args meth c cf ad 17 cX11_chance 5 RX11 := C
  refine gm_lve (lv' := [(0, .ref (ad 0))]) rfl ?_
  unfold Mo_chance at hf
  refine gm_aload_n C dX11_chance_0 rfl 0 rfl ?_
  refine gm_iconst (v := 4) C dX11_chance_1 (by decide) ?_
  obtain ⟨v1, S2, eS2, hf⟩ := gm_bp2_s hf
  refine gm_callVi (As := [.int 4]) C (Mo_draw_c l cf ad eS2) (Nat.le_of_ble_eq_true rfl) rfl kc_11 wy_Mo_draw rfl wl_1218 rfl ⟨(Nat.le_of_ble_eq_true rfl), (Nat.le_of_ble_eq_true rfl)⟩ rfl (Nat.le_of_ble_eq_true rfl) dX11_chance_2 ?_
  refine gm_istore_n (lv' := [(1, .int v1), (0, .ref (ad 0))]) C dX11_chance_5 rfl (by decide) rfl ?_
  refine gm_aload_n C dX11_chance_6 rfl 1 rfl ?_
  refine gm_aload_n C dX11_chance_7 rfl 1 rfl ?_
  refine gm_geti C (Nat.le_of_ble_eq_true rfl) rfl kc_11 (k := 3) rfl (by decide) rfl wl_843 dX11_chance_8 ?_
  obtain ⟨v3, S4, eS4, hf⟩ := gm_bp2_s hf
  refine gm_callVi (As := [.int (S2.1 0 3)]) C (Mo_draw_c l cf ad eS4) (Nat.le_of_ble_eq_true rfl) rfl kc_11 wy_Mo_draw rfl wl_1218 rfl ⟨(Nat.le_of_ble_eq_true rfl), (Nat.le_of_ble_eq_true rfl)⟩ rfl (Nat.le_of_ble_eq_true rfl) dX11_chance_11 ?_
  refine gm_istore_n (lv' := [(2, .int v3), (1, .int v1), (0, .ref (ad 0))]) C dX11_chance_14 rfl (by decide) rfl ?_
  refine gm_aload_n C dX11_chance_15 rfl 2 rfl ?_
  refine gm_aload_n C dX11_chance_16 rfl 2 rfl ?_
  refine gm_geti C (Nat.le_of_ble_eq_true rfl) rfl kc_11 (k := 4) rfl (by decide) rfl wl_844 dX11_chance_17 ?_
  obtain ⟨v5, S6, eS6, hf⟩ := gm_bp2_s hf
  refine gm_callVi (As := [.int (S4.1 0 4)]) C (Mo_draw_c l cf ad eS6) (Nat.le_of_ble_eq_true rfl) rfl kc_11 wy_Mo_draw rfl wl_1218 rfl ⟨(Nat.le_of_ble_eq_true rfl), (Nat.le_of_ble_eq_true rfl)⟩ rfl (Nat.le_of_ble_eq_true rfl) dX11_chance_20 ?_
  refine gm_istore_n (lv' := [(3, .int v5), (2, .int v3), (1, .int v1), (0, .ref (ad 0))]) C dX11_chance_23 rfl (by decide) rfl ?_
  refine gm_iload_n C dX11_chance_24 rfl 2 rfl ?_
  refine gm_iconst (v := 3) C dX11_chance_25 (by decide) ?_
  refine gm_icmp_ne C 62 dX11_chance_26 (by decide) (fun c7 => ?_) (fun c7 => ?_)
  · have hf := gm_if _ c7 hf
    refine gm_aload_n C dX11_chance_62 rfl 3 rfl ?_
    refine gm_getr (j := 2) (u := 2) C (Nat.le_of_ble_eq_true rfl) rfl kc_11 (k := 6) rfl (by decide) rfl rfl wl_846 dX11_chance_63 ?_
    refine gm_bipush (v := 17) C dX11_chance_66 (by decide) ?_
    refine gm_iload_n C dX11_chance_68 rfl 1 rfl ?_
    refine gm_iadd C dX11_chance_69 ?_
    obtain ⟨h8, hf⟩ := gm_ck_s hf
    refine gm_iald C (Nat.le_of_ble_eq_true rfl) rfl rfl h8 dX11_chance_70 ?_
    refine gm_if_le C 82 dX11_chance_71 (by decide) (fun c9 => ?_) (fun c9 => ?_)
    · have hf := gm_it _ c9 hf
      exact gm_vret C hr dX11_chance_82 hf
    · have hf := gm_if _ c9 hf
      refine gm_aload_n C dX11_chance_74 rfl 3 rfl ?_
      refine gm_iload_n C dX11_chance_75 rfl 1 rfl ?_
      refine gm_iload_n C dX11_chance_76 rfl 0 rfl ?_
      obtain ⟨v10, S11, eS11, hf⟩ := gm_bp2_s hf
      refine gm_callVi (As := [.int v3, .int v5]) C (Mo_sellNow_c l cf ad eS11) (Nat.le_of_ble_eq_true rfl) rfl kc_11 wy_Mo_sellNow rfl wl_1180 rfl ⟨(Nat.le_of_ble_eq_true rfl), (Nat.le_of_ble_eq_true rfl)⟩ rfl (Nat.le_of_ble_eq_true rfl) dX11_chance_77 ?_
      refine gm_istore (lv' := [(4, .int v10), (3, .int v5), (2, .int v3), (1, .int v1), (0, .ref (ad 0))]) C dX11_chance_80 (by decide) rfl ?_
      exact gm_vret C hr dX11_chance_82 hf
  · have hf := gm_it _ c7 hf
    refine gm_aload_n C dX11_chance_29 rfl 3 rfl ?_
    refine gm_getr (j := 2) (u := 2) C (Nat.le_of_ble_eq_true rfl) rfl kc_11 (k := 6) rfl (by decide) rfl rfl wl_846 dX11_chance_30 ?_
    refine gm_bipush (v := 13) C dX11_chance_33 (by decide) ?_
    refine gm_iload_n C dX11_chance_35 rfl 1 rfl ?_
    refine gm_iadd C dX11_chance_36 ?_
    refine gm_aload_n C dX11_chance_37 rfl 3 rfl ?_
    refine gm_aload_n C dX11_chance_38 rfl 3 rfl ?_
    refine gm_geti C (Nat.le_of_ble_eq_true rfl) rfl kc_11 (k := 1) rfl (by decide) rfl wl_841 dX11_chance_39 ?_
    refine gm_iconst (v := 1) C dX11_chance_42 (by decide) ?_
    refine gm_iadd C dX11_chance_43 ?_
    obtain ⟨v12, S13, eS13, hf⟩ := gm_bp2_s hf
    refine gm_callVi (As := [.int ((S6.1 0 1) + 1)]) C (Mo_draw_c l cf ad eS13) (Nat.le_of_ble_eq_true rfl) rfl kc_11 wy_Mo_draw rfl wl_1218 rfl ⟨(Nat.le_of_ble_eq_true rfl), (Nat.le_of_ble_eq_true rfl)⟩ rfl (Nat.le_of_ble_eq_true rfl) dX11_chance_44 ?_
    obtain ⟨h14, hf⟩ := gm_ck_s hf
    refine gm_iast C (Nat.le_of_ble_eq_true rfl) rfl rfl h14 dX11_chance_47 ?_
    obtain ⟨S15, eS15, hf⟩ := gm_lt_s hf
    refine gm_topm eS15 ?_
    refine gm_aload_n C dX11_chance_48 rfl 3 rfl ?_
    refine gm_getr (j := 2) (u := 2) C (Nat.le_of_ble_eq_true rfl) rfl kc_11 (k := 6) rfl (by decide) rfl rfl wl_846 dX11_chance_49 ?_
    refine gm_bipush (v := 17) C dX11_chance_52 (by decide) ?_
    refine gm_iload_n C dX11_chance_54 rfl 1 rfl ?_
    refine gm_iadd C dX11_chance_55 ?_
    refine gm_bipush (v := 50) C dX11_chance_56 (by decide) ?_
    obtain ⟨h16, hf⟩ := gm_ck_s hf
    refine gm_iast C (Nat.le_of_ble_eq_true rfl) rfl rfl h16 dX11_chance_58 ?_
    obtain ⟨S17, eS17, hf⟩ := gm_lt_s hf
    refine gm_topm eS17 ?_
    refine gm_goto C 82 dX11_chance_59 (by decide) ?_
    exact gm_vret C hr dX11_chance_82 hf
