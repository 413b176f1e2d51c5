theorem dX11_sellNow_0 : decode cX11_sellNow 0 = .ok (.aload_n 0, 1) := by decide +kernel
theorem dX11_sellNow_1 : decode cX11_sellNow 1 = .ok (.getfield 13, 3) := by decide +kernel
theorem dX11_sellNow_4 : decode cX11_sellNow 4 = .ok (.bipush 13, 2) := by decide +kernel
theorem dX11_sellNow_6 : decode cX11_sellNow 6 = .ok (.iload_n 1, 1) := by decide +kernel
theorem dX11_sellNow_7 : decode cX11_sellNow 7 = .ok (.iadd, 1) := by decide +kernel
theorem dX11_sellNow_8 : decode cX11_sellNow 8 = .ok (.iaload, 1) := by decide +kernel
theorem dX11_sellNow_9 : decode cX11_sellNow 9 = .ok (.istore_n 3, 1) := by decide +kernel
theorem dX11_sellNow_10 : decode cX11_sellNow 10 = .ok (.aload_n 0, 1) := by decide +kernel
theorem dX11_sellNow_11 : decode cX11_sellNow 11 = .ok (.getfield 13, 3) := by decide +kernel
theorem dX11_sellNow_14 : decode cX11_sellNow 14 = .ok (.bipush 13, 2) := by decide +kernel
theorem dX11_sellNow_16 : decode cX11_sellNow 16 = .ok (.iload_n 1, 1) := by decide +kernel
theorem dX11_sellNow_17 : decode cX11_sellNow 17 = .ok (.iadd, 1) := by decide +kernel
theorem dX11_sellNow_18 : decode cX11_sellNow 18 = .ok (.iload_n 3, 1) := by decide +kernel
theorem dX11_sellNow_19 : decode cX11_sellNow 19 = .ok (.aload_n 0, 1) := by decide +kernel
theorem dX11_sellNow_20 : decode cX11_sellNow 20 = .ok (.getfield 79, 3) := by decide +kernel
theorem dX11_sellNow_23 : decode cX11_sellNow 23 = .ok (.if_icmp .ne 7, 3) := by decide +kernel
theorem dX11_sellNow_26 : decode cX11_sellNow 26 = .ok (.iconst 0, 1) := by decide +kernel
theorem dX11_sellNow_27 : decode cX11_sellNow 27 = .ok (.goto 6, 3) := by decide +kernel
theorem dX11_sellNow_30 : decode cX11_sellNow 30 = .ok (.iload_n 3, 1) := by decide +kernel
theorem dX11_sellNow_31 : decode cX11_sellNow 31 = .ok (.iconst 1, 1) := by decide +kernel
theorem dX11_sellNow_32 : decode cX11_sellNow 32 = .ok (.iadd, 1) := by decide +kernel
theorem dX11_sellNow_33 : decode cX11_sellNow 33 = .ok (.iastore, 1) := by decide +kernel
theorem dX11_sellNow_34 : decode cX11_sellNow 34 = .ok (.aload_n 0, 1) := by decide +kernel
theorem dX11_sellNow_35 : decode cX11_sellNow 35 = .ok (.getfield 13, 3) := by decide +kernel
theorem dX11_sellNow_38 : decode cX11_sellNow 38 = .ok (.bipush 17, 2) := by decide +kernel
theorem dX11_sellNow_40 : decode cX11_sellNow 40 = .ok (.iload_n 1, 1) := by decide +kernel
theorem dX11_sellNow_41 : decode cX11_sellNow 41 = .ok (.iadd, 1) := by decide +kernel
theorem dX11_sellNow_42 : decode cX11_sellNow 42 = .ok (.dup2, 1) := by decide +kernel
theorem dX11_sellNow_43 : decode cX11_sellNow 43 = .ok (.iaload, 1) := by decide +kernel
theorem dX11_sellNow_44 : decode cX11_sellNow 44 = .ok (.iconst 1, 1) := by decide +kernel
theorem dX11_sellNow_45 : decode cX11_sellNow 45 = .ok (.isub, 1) := by decide +kernel
theorem dX11_sellNow_46 : decode cX11_sellNow 46 = .ok (.iastore, 1) := by decide +kernel
theorem dX11_sellNow_47 : decode cX11_sellNow 47 = .ok (.aload_n 0, 1) := by decide +kernel
theorem dX11_sellNow_48 : decode cX11_sellNow 48 = .ok (.iload_n 3, 1) := by decide +kernel
theorem dX11_sellNow_49 : decode cX11_sellNow 49 = .ok (.invokevirtual 224, 3) := by decide +kernel
theorem dX11_sellNow_52 : decode cX11_sellNow 52 = .ok (.istore 4, 2) := by decide +kernel
theorem dX11_sellNow_54 : decode cX11_sellNow 54 = .ok (.iload 4, 2) := by decide +kernel
theorem dX11_sellNow_56 : decode cX11_sellNow 56 = .ok (.ifCond .eq 24, 3) := by decide +kernel
theorem dX11_sellNow_59 : decode cX11_sellNow 59 = .ok (.aload_n 0, 1) := by decide +kernel
theorem dX11_sellNow_60 : decode cX11_sellNow 60 = .ok (.getfield 7, 3) := by decide +kernel
theorem dX11_sellNow_63 : decode cX11_sellNow 63 = .ok (.iload_n 2, 1) := by decide +kernel
theorem dX11_sellNow_64 : decode cX11_sellNow 64 = .ok (.iaload, 1) := by decide +kernel
theorem dX11_sellNow_65 : decode cX11_sellNow 65 = .ok (.iconst 1, 1) := by decide +kernel
theorem dX11_sellNow_66 : decode cX11_sellNow 66 = .ok (.if_icmp .ne 14, 3) := by decide +kernel
theorem dX11_sellNow_69 : decode cX11_sellNow 69 = .ok (.aload_n 0, 1) := by decide +kernel
theorem dX11_sellNow_70 : decode cX11_sellNow 70 = .ok (.bipush 31, 2) := by decide +kernel
theorem dX11_sellNow_72 : decode cX11_sellNow 72 = .ok (.iload_n 2, 1) := by decide +kernel
theorem dX11_sellNow_73 : decode cX11_sellNow 73 = .ok (.iadd, 1) := by decide +kernel
theorem dX11_sellNow_74 : decode cX11_sellNow 74 = .ok (.invokevirtual 268, 3) := by decide +kernel
theorem dX11_sellNow_77 : decode cX11_sellNow 77 = .ok (.goto 81, 3) := by decide +kernel
theorem dX11_sellNow_80 : decode cX11_sellNow 80 = .ok (.iload 4, 2) := by decide +kernel
theorem dX11_sellNow_82 : decode cX11_sellNow 82 = .ok (.ifCond .eq 24, 3) := by decide +kernel
theorem dX11_sellNow_85 : decode cX11_sellNow 85 = .ok (.aload_n 0, 1) := by decide +kernel
theorem dX11_sellNow_86 : decode cX11_sellNow 86 = .ok (.getfield 7, 3) := by decide +kernel
theorem dX11_sellNow_89 : decode cX11_sellNow 89 = .ok (.iload_n 2, 1) := by decide +kernel
theorem dX11_sellNow_90 : decode cX11_sellNow 90 = .ok (.iaload, 1) := by decide +kernel
theorem dX11_sellNow_91 : decode cX11_sellNow 91 = .ok (.iconst 2, 1) := by decide +kernel
theorem dX11_sellNow_92 : decode cX11_sellNow 92 = .ok (.if_icmp .ne 14, 3) := by decide +kernel
theorem dX11_sellNow_95 : decode cX11_sellNow 95 = .ok (.aload_n 0, 1) := by decide +kernel
theorem dX11_sellNow_96 : decode cX11_sellNow 96 = .ok (.bipush 36, 2) := by decide +kernel
theorem dX11_sellNow_98 : decode cX11_sellNow 98 = .ok (.iload_n 2, 1) := by decide +kernel
theorem dX11_sellNow_99 : decode cX11_sellNow 99 = .ok (.iadd, 1) := by decide +kernel
theorem dX11_sellNow_100 : decode cX11_sellNow 100 = .ok (.invokevirtual 268, 3) := by decide +kernel
theorem dX11_sellNow_103 : decode cX11_sellNow 103 = .ok (.goto 55, 3) := by decide +kernel
theorem dX11_sellNow_106 : decode cX11_sellNow 106 = .ok (.iload 4, 2) := by decide +kernel
theorem dX11_sellNow_108 : decode cX11_sellNow 108 = .ok (.ifCond .ne 24, 3) := by decide +kernel
theorem dX11_sellNow_111 : decode cX11_sellNow 111 = .ok (.aload_n 0, 1) := by decide +kernel
theorem dX11_sellNow_112 : decode cX11_sellNow 112 = .ok (.getfield 7, 3) := by decide +kernel
theorem dX11_sellNow_115 : decode cX11_sellNow 115 = .ok (.iload_n 2, 1) := by decide +kernel
theorem dX11_sellNow_116 : decode cX11_sellNow 116 = .ok (.iaload, 1) := by decide +kernel
theorem dX11_sellNow_117 : decode cX11_sellNow 117 = .ok (.iconst 3, 1) := by decide +kernel
theorem dX11_sellNow_118 : decode cX11_sellNow 118 = .ok (.if_icmp .ne 14, 3) := by decide +kernel
theorem dX11_sellNow_121 : decode cX11_sellNow 121 = .ok (.iload_n 2, 1) := by decide +kernel
theorem dX11_sellNow_122 : decode cX11_sellNow 122 = .ok (.iconst 1, 1) := by decide +kernel
theorem dX11_sellNow_123 : decode cX11_sellNow 123 = .ok (.iadd, 1) := by decide +kernel
theorem dX11_sellNow_124 : decode cX11_sellNow 124 = .ok (.aload_n 0, 1) := by decide +kernel
theorem dX11_sellNow_125 : decode cX11_sellNow 125 = .ok (.getfield 76, 3) := by decide +kernel
theorem dX11_sellNow_128 : decode cX11_sellNow 128 = .ok (.irem, 1) := by decide +kernel
theorem dX11_sellNow_129 : decode cX11_sellNow 129 = .ok (.goto 4, 3) := by decide +kernel
theorem dX11_sellNow_132 : decode cX11_sellNow 132 = .ok (.iload_n 2, 1) := by decide +kernel
theorem dX11_sellNow_133 : decode cX11_sellNow 133 = .ok (.istore 5, 2) := by decide +kernel
theorem dX11_sellNow_135 : decode cX11_sellNow 135 = .ok (.aload_n 0, 1) := by decide +kernel
theorem dX11_sellNow_136 : decode cX11_sellNow 136 = .ok (.bipush 21, 2) := by decide +kernel
theorem dX11_sellNow_138 : decode cX11_sellNow 138 = .ok (.iload 5, 2) := by decide +kernel
theorem dX11_sellNow_140 : decode cX11_sellNow 140 = .ok (.iadd, 1) := by decide +kernel
theorem dX11_sellNow_141 : decode cX11_sellNow 141 = .ok (.invokevirtual 268, 3) := by decide +kernel
theorem dX11_sellNow_144 : decode cX11_sellNow 144 = .ok (.iload 4, 2) := by decide +kernel
theorem dX11_sellNow_146 : decode cX11_sellNow 146 = .ok (.ifCond .eq 12, 3) := by decide +kernel
theorem dX11_sellNow_149 : decode cX11_sellNow 149 = .ok (.aload_n 0, 1) := by decide +kernel
theorem dX11_sellNow_150 : decode cX11_sellNow 150 = .ok (.bipush 26, 2) := by decide +kernel
theorem dX11_sellNow_152 : decode cX11_sellNow 152 = .ok (.iload 5, 2) := by decide +kernel
theorem dX11_sellNow_154 : decode cX11_sellNow 154 = .ok (.iadd, 1) := by decide +kernel
theorem dX11_sellNow_155 : decode cX11_sellNow 155 = .ok (.invokevirtual 268, 3) := by decide +kernel
theorem dX11_sellNow_158 : decode cX11_sellNow 158 = .ok (.iload_n 3, 1) := by decide +kernel
theorem dX11_sellNow_159 : decode cX11_sellNow 159 = .ok (.ireturn, 1) := by decide +kernel
def Mo_sellNow (fl : Nat) (a0 : Int32) (a1 : Int32) (S : gm_M) : Option (Int32 × gm_M) :=
  gm_ck (13 + a0) 42 <|
  gm_lt (α := Int32) (S.1 2 (13 + a0).toNatClampNeg) fun x2 =>
  gm_bp1 (show Option (Int32) from
    if x2 = S.1 0 1 then (
      some (0)
    ) else (
      some (x2 + 1)
    )
  ) fun x3 =>
  gm_ck (13 + a0) 42 <|
  gm_lt (α := gm_M) (gm_ui S 2 ((13 + a0).toNatClampNeg) x3) fun S5 =>
  gm_ck (17 + a0) 42 <|
  gm_ck (17 + a0) 42 <|
  gm_lt (α := gm_M) (gm_ui S5 2 ((17 + a0).toNatClampNeg) ((S5.1 2 (17 + a0).toNatClampNeg) - 1)) fun S8 =>
  gm_bp1 (Mo_isLucky fl x2 S8) fun v9 =>
  if v9 = 0 then (
    if v9 = 0 then (
      gm_bp1 (show Option (Int32) from
        if v9 = 0 then (
          gm_ck (a1) 5 <|
          if S8.1 1 a1.toNatClampNeg = 3 then (
            if S8.1 0 4 = 0 then none else
            some (gm_rm (a1 + 1) (S8.1 0 4))
          ) else (
            some (a1)
          )
        ) else (
          some (a1)
        )
      ) fun x12 =>
      gm_bp1 (Mo_more (21 + x12) S8) fun S13 =>
      if v9 = 0 then (
        some (x2, S13)
      ) else (
        gm_bp1 (Mo_more (26 + x12) S13) fun S15 =>
        some (x2, S15)
      )
    ) else (
      gm_ck (a1) 5 <|
      if S8.1 1 a1.toNatClampNeg = 2 then (
        gm_bp1 (Mo_more (36 + a1) S8) fun S30 =>
        some (x2, S30)
      ) else (
        gm_bp1 (show Option (Int32) from
          if v9 = 0 then (
            gm_ck (a1) 5 <|
            if S8.1 1 a1.toNatClampNeg = 3 then (
              if S8.1 0 4 = 0 then none else
              some (gm_rm (a1 + 1) (S8.1 0 4))
            ) else (
              some (a1)
            )
          ) else (
            some (a1)
          )
        ) fun x22 =>
        gm_bp1 (Mo_more (21 + x22) S8) fun S23 =>
        if v9 = 0 then (
          some (x2, S23)
        ) else (
          gm_bp1 (Mo_more (26 + x22) S23) fun S25 =>
          some (x2, S25)
        )
      )
    )
  ) else (
    gm_ck (a1) 5 <|
    if S8.1 1 a1.toNatClampNeg = 1 then (
      gm_bp1 (Mo_more (31 + a1) S8) fun S53 =>
      some (x2, S53)
    ) else (
      if v9 = 0 then (
        gm_bp1 (show Option (Int32) from
          if v9 = 0 then (
            gm_ck (a1) 5 <|
            if S8.1 1 a1.toNatClampNeg = 3 then (
              if S8.1 0 4 = 0 then none else
              some (gm_rm (a1 + 1) (S8.1 0 4))
            ) else (
              some (a1)
            )
          ) else (
            some (a1)
          )
        ) fun x34 =>
        gm_bp1 (Mo_more (21 + x34) S8) fun S35 =>
        if v9 = 0 then (
          some (x2, S35)
        ) else (
          gm_bp1 (Mo_more (26 + x34) S35) fun S37 =>
          some (x2, S37)
        )
      ) else (
        gm_ck (a1) 5 <|
        if S8.1 1 a1.toNatClampNeg = 2 then (
          gm_bp1 (Mo_more (36 + a1) S8) fun S52 =>
          some (x2, S52)
        ) else (
          gm_bp1 (show Option (Int32) from
            if v9 = 0 then (
              gm_ck (a1) 5 <|
              if S8.1 1 a1.toNatClampNeg = 3 then (
                if S8.1 0 4 = 0 then none else
                some (gm_rm (a1 + 1) (S8.1 0 4))
              ) else (
                some (a1)
              )
            ) else (
              some (a1)
            )
          ) fun x44 =>
          gm_bp1 (Mo_more (21 + x44) S8) fun S45 =>
          if v9 = 0 then (
            some (x2, S45)
          ) else (
            gm_bp1 (Mo_more (26 + x44) S45) fun S47 =>
            some (x2, S47)
          )
        )
      )
    )
  )
set_option maxHeartbeats 4000000 in
set_option maxRecDepth 100000 in
theorem Mo_sellNow_c (l : Launch) (cf : gm_C) (ad : Nat → Nat) {fl : Nat}   {a0 : Int32} {a1 : Int32} {S : gm_M} {r : Int32} {S'  : gm_M} (hf : Mo_sellNow fl a0 a1 S = some (r, S')) : gm_Met l yX11_sellNow cX11_sellNow 6 (some .int) 6 141 cf ad gm_sM 17 [.ref (ad 0), .int a0, .int a1] S (some (.int r)) S' := by
  refine gm_met (by decide +kernel) (Nat.le_of_ble_eq_true rfl) ?_
  intro p e s m args below meth c C hr
  have C : gm_F p s m args meth c cf ad 17 cX11_sellNow 6 RX11 := C
  refine gm_lve (lv' := [(0, .ref (ad 0)), (1, .int a0), (2, .int a1)]) rfl ?_
  unfold Mo_sellNow at hf
  refine gm_aload_n C dX11_sellNow_0 rfl 0 rfl ?_
  refine gm_getr (j := 2) (u := 2) C (Nat.le_of_ble_eq_true rfl) rfl kc_11 (k := 6) rfl (by decide) rfl rfl wl_846 dX11_sellNow_1 ?_
  refine gm_bipush (v := 13) C dX11_sellNow_4 (by decide) ?_
  refine gm_iload_n C dX11_sellNow_6 rfl 1 rfl ?_
  refine gm_iadd C dX11_sellNow_7 ?_
  obtain ⟨h1, hf⟩ := gm_ck_s hf
  refine gm_iald C (Nat.le_of_ble_eq_true rfl) rfl rfl h1 dX11_sellNow_8 ?_
  obtain ⟨x2, ex2, hf⟩ := gm_lt_s hf
  refine gm_topi ex2 ?_
  refine gm_istore_n (lv' := [(3, .int x2), (0, .ref (ad 0)), (1, .int a0), (2, .int a1)]) C dX11_sellNow_9 rfl (by decide) rfl ?_
  refine gm_aload_n C dX11_sellNow_10 rfl 1 rfl ?_
  refine gm_getr (j := 2) (u := 2) C (Nat.le_of_ble_eq_true rfl) rfl kc_11 (k := 6) rfl (by decide) rfl rfl wl_846 dX11_sellNow_11 ?_
  refine gm_bipush (v := 13) C dX11_sellNow_14 (by decide) ?_
  refine gm_iload_n C dX11_sellNow_16 rfl 2 rfl ?_
  refine gm_iadd C dX11_sellNow_17 ?_
  refine gm_iload_n C dX11_sellNow_18 rfl 0 rfl ?_
  refine gm_aload_n C dX11_sellNow_19 rfl 1 rfl ?_
  refine gm_geti C (Nat.le_of_ble_eq_true rfl) rfl kc_11 (k := 1) rfl (by decide) rfl wl_841 dX11_sellNow_20 ?_
  obtain ⟨x3, hx, hf⟩ := gm_bp1_s hf
  have key : gm_G p l e { frames := 6, cells := 0, slots := 0, locals := 141 } s m args below meth c (MQ below (gm_Q cf ad gm_sM 17 (some (.int r)) S') args s 0 0 (gm_A ad 17)) cf ad gm_sM 17 6 S 33 [(0, .ref (ad 0)), (1, .int a0), (2, .int a1), (3, .int x2)] [.int x3, .int (13 + a0), .ref (ad 2)] := by
    obtain ⟨h4, hf⟩ := gm_ck_s hf
    refine gm_iast C (Nat.le_of_ble_eq_true rfl) rfl rfl h4 dX11_sellNow_33 ?_
    obtain ⟨S5, eS5, hf⟩ := gm_lt_s hf
    refine gm_topm eS5 ?_
    refine gm_aload_n C dX11_sellNow_34 rfl 0 rfl ?_
    refine gm_getr (j := 2) (u := 2) C (Nat.le_of_ble_eq_true rfl) rfl kc_11 (k := 6) rfl (by decide) rfl rfl wl_846 dX11_sellNow_35 ?_
    refine gm_bipush (v := 17) C dX11_sellNow_38 (by decide) ?_
    refine gm_iload_n C dX11_sellNow_40 rfl 1 rfl ?_
    refine gm_iadd C dX11_sellNow_41 ?_
    refine gm_dup2_11 C dX11_sellNow_42 rfl rfl ?_
    obtain ⟨h6, hf⟩ := gm_ck_s hf
    refine gm_iald C (Nat.le_of_ble_eq_true rfl) rfl rfl h6 dX11_sellNow_43 ?_
    refine gm_iconst (v := 1) C dX11_sellNow_44 (by decide) ?_
    refine gm_isub C dX11_sellNow_45 ?_
    obtain ⟨h7, hf⟩ := gm_ck_s hf
    refine gm_iast C (Nat.le_of_ble_eq_true rfl) rfl rfl h7 dX11_sellNow_46 ?_
    obtain ⟨S8, eS8, hf⟩ := gm_lt_s hf
    refine gm_topm eS8 ?_
    refine gm_aload_n C dX11_sellNow_47 rfl 0 rfl ?_
    refine gm_iload_n C dX11_sellNow_48 rfl 3 rfl ?_
    obtain ⟨v9, ev9, hf⟩ := gm_bp1_s hf
    refine gm_callVi (As := [.int x2]) C (Mo_isLucky_c l cf ad ev9) (Nat.le_of_ble_eq_true rfl) rfl kc_11 wy_Mo_isLucky rfl wl_1086 rfl ⟨(Nat.le_of_ble_eq_true rfl), (Nat.le_of_ble_eq_true rfl)⟩ rfl (Nat.le_of_ble_eq_true rfl) dX11_sellNow_49 ?_
    refine gm_istore (lv' := [(4, .int v9), (0, .ref (ad 0)), (1, .int a0), (2, .int a1), (3, .int x2)]) C dX11_sellNow_52 (by decide) rfl ?_
    refine gm_iload C dX11_sellNow_54 0 rfl ?_
    refine gm_if_eq C 80 dX11_sellNow_56 (by decide) (fun c10 => ?_) (fun c10 => ?_)
    · have hf := gm_it _ c10 hf
      refine gm_iload C dX11_sellNow_80 0 rfl ?_
      refine gm_if_eq C 106 dX11_sellNow_82 (by decide) (fun c11 => ?_) (fun c11 => ?_)
      · have hf := gm_it _ c11 hf
        refine gm_iload C dX11_sellNow_106 0 rfl ?_
        obtain ⟨x12, hx, hf⟩ := gm_bp1_s hf
        have key : gm_G p l e { frames := 6, cells := 0, slots := 0, locals := 141 } s m args below meth c (MQ below (gm_Q cf ad gm_sM 17 (some (.int r)) S') args s 0 0 (gm_A ad 17)) cf ad gm_sM 17 6 S8 133 [(0, .ref (ad 0)), (3, .int x2), (4, .int v9)] [.int x12] := by
          refine gm_istore (lv' := [(5, .int x12), (0, .ref (ad 0)), (3, .int x2), (4, .int v9)]) C dX11_sellNow_133 (by decide) rfl ?_
          refine gm_aload_n C dX11_sellNow_135 rfl 1 rfl ?_
          refine gm_bipush (v := 21) C dX11_sellNow_136 (by decide) ?_
          refine gm_iload C dX11_sellNow_138 0 rfl ?_
          refine gm_iadd C dX11_sellNow_140 ?_
          obtain ⟨S13, eS13, hf⟩ := gm_bp1_s hf
          refine gm_callVv (As := [.int (21 + x12)]) C (Mo_more_c l cf ad eS13) (Nat.le_of_ble_eq_true rfl) rfl kc_11 wy_Mo_more rfl wl_1184 rfl ⟨(Nat.le_of_ble_eq_true rfl), (Nat.le_of_ble_eq_true rfl)⟩ rfl (Nat.le_of_ble_eq_true rfl) dX11_sellNow_141 ?_
          refine gm_iload C dX11_sellNow_144 3 rfl ?_
          refine gm_if_eq C 158 dX11_sellNow_146 (by decide) (fun c14 => ?_) (fun c14 => ?_)
          · have hf := gm_it _ c14 hf
            refine gm_iload_n C dX11_sellNow_158 rfl 2 rfl ?_
            exact gm_iret C hr rfl dX11_sellNow_159 hf
          · have hf := gm_if _ c14 hf
            refine gm_aload_n C dX11_sellNow_149 rfl 1 rfl ?_
            refine gm_bipush (v := 26) C dX11_sellNow_150 (by decide) ?_
            refine gm_iload C dX11_sellNow_152 0 rfl ?_
            refine gm_iadd C dX11_sellNow_154 ?_
            obtain ⟨S15, eS15, hf⟩ := gm_bp1_s hf
            refine gm_callVv (As := [.int (26 + x12)]) C (Mo_more_c l cf ad eS15) (Nat.le_of_ble_eq_true rfl) rfl kc_11 wy_Mo_more rfl wl_1184 rfl ⟨(Nat.le_of_ble_eq_true rfl), (Nat.le_of_ble_eq_true rfl)⟩ rfl (Nat.le_of_ble_eq_true rfl) dX11_sellNow_155 ?_
            refine gm_iload_n C dX11_sellNow_158 rfl 2 rfl ?_
            exact gm_iret C hr rfl dX11_sellNow_159 hf
        have hf := hx
        refine gm_if_ne C 132 dX11_sellNow_108 (by decide) (fun c16 => ?_) (fun c16 => ?_)
        · have hf := gm_if _ c16 hf
          refine gm_iload_n C dX11_sellNow_132 rfl 3 rfl ?_
          cases hf
          exact gm_lvp [1, 4, 0] rfl key
        · have hf := gm_it _ c16 hf
          refine gm_aload_n C dX11_sellNow_111 rfl 1 rfl ?_
          refine gm_getr (j := 1) (u := 1) C (Nat.le_of_ble_eq_true rfl) rfl kc_11 (k := 5) rfl (by decide) rfl rfl wl_845 dX11_sellNow_112 ?_
          refine gm_iload_n C dX11_sellNow_115 rfl 3 rfl ?_
          obtain ⟨h17, hf⟩ := gm_ck_s hf
          refine gm_iald C (Nat.le_of_ble_eq_true rfl) rfl rfl h17 dX11_sellNow_116 ?_
          refine gm_iconst (v := 3) C dX11_sellNow_117 (by decide) ?_
          refine gm_icmp_ne C 132 dX11_sellNow_118 (by decide) (fun c18 => ?_) (fun c18 => ?_)
          · have hf := gm_if _ c18 hf
            refine gm_iload_n C dX11_sellNow_132 rfl 3 rfl ?_
            cases hf
            exact gm_lvp [1, 4, 0] rfl key
          · have hf := gm_it _ c18 hf
            refine gm_iload_n C dX11_sellNow_121 rfl 3 rfl ?_
            refine gm_iconst (v := 1) C dX11_sellNow_122 (by decide) ?_
            refine gm_iadd C dX11_sellNow_123 ?_
            refine gm_aload_n C dX11_sellNow_124 rfl 1 rfl ?_
            refine gm_geti C (Nat.le_of_ble_eq_true rfl) rfl kc_11 (k := 4) rfl (by decide) rfl wl_844 dX11_sellNow_125 ?_
            obtain ⟨h19, hf⟩ := gm_iz _ hf
            refine gm_irem C dX11_sellNow_128 h19 ?_
            refine gm_goto C 133 dX11_sellNow_129 (by decide) ?_
            cases hf
            exact gm_lvp [1, 4, 0] rfl key
      · have hf := gm_if _ c11 hf
        refine gm_aload_n C dX11_sellNow_85 rfl 1 rfl ?_
        refine gm_getr (j := 1) (u := 1) C (Nat.le_of_ble_eq_true rfl) rfl kc_11 (k := 5) rfl (by decide) rfl rfl wl_845 dX11_sellNow_86 ?_
        refine gm_iload_n C dX11_sellNow_89 rfl 3 rfl ?_
        obtain ⟨h20, hf⟩ := gm_ck_s hf
        refine gm_iald C (Nat.le_of_ble_eq_true rfl) rfl rfl h20 dX11_sellNow_90 ?_
        refine gm_iconst (v := 2) C dX11_sellNow_91 (by decide) ?_
        refine gm_icmp_ne C 106 dX11_sellNow_92 (by decide) (fun c21 => ?_) (fun c21 => ?_)
        · have hf := gm_if _ c21 hf
          refine gm_iload C dX11_sellNow_106 0 rfl ?_
          obtain ⟨x22, hx, hf⟩ := gm_bp1_s hf
          have key : gm_G p l e { frames := 6, cells := 0, slots := 0, locals := 141 } s m args below meth c (MQ below (gm_Q cf ad gm_sM 17 (some (.int r)) S') args s 0 0 (gm_A ad 17)) cf ad gm_sM 17 6 S8 133 [(0, .ref (ad 0)), (3, .int x2), (4, .int v9)] [.int x22] := by
            refine gm_istore (lv' := [(5, .int x22), (0, .ref (ad 0)), (3, .int x2), (4, .int v9)]) C dX11_sellNow_133 (by decide) rfl ?_
            refine gm_aload_n C dX11_sellNow_135 rfl 1 rfl ?_
            refine gm_bipush (v := 21) C dX11_sellNow_136 (by decide) ?_
            refine gm_iload C dX11_sellNow_138 0 rfl ?_
            refine gm_iadd C dX11_sellNow_140 ?_
            obtain ⟨S23, eS23, hf⟩ := gm_bp1_s hf
            refine gm_callVv (As := [.int (21 + x22)]) C (Mo_more_c l cf ad eS23) (Nat.le_of_ble_eq_true rfl) rfl kc_11 wy_Mo_more rfl wl_1184 rfl ⟨(Nat.le_of_ble_eq_true rfl), (Nat.le_of_ble_eq_true rfl)⟩ rfl (Nat.le_of_ble_eq_true rfl) dX11_sellNow_141 ?_
            refine gm_iload C dX11_sellNow_144 3 rfl ?_
            refine gm_if_eq C 158 dX11_sellNow_146 (by decide) (fun c24 => ?_) (fun c24 => ?_)
            · have hf := gm_it _ c24 hf
              refine gm_iload_n C dX11_sellNow_158 rfl 2 rfl ?_
              exact gm_iret C hr rfl dX11_sellNow_159 hf
            · have hf := gm_if _ c24 hf
              refine gm_aload_n C dX11_sellNow_149 rfl 1 rfl ?_
              refine gm_bipush (v := 26) C dX11_sellNow_150 (by decide) ?_
              refine gm_iload C dX11_sellNow_152 0 rfl ?_
              refine gm_iadd C dX11_sellNow_154 ?_
              obtain ⟨S25, eS25, hf⟩ := gm_bp1_s hf
              refine gm_callVv (As := [.int (26 + x22)]) C (Mo_more_c l cf ad eS25) (Nat.le_of_ble_eq_true rfl) rfl kc_11 wy_Mo_more rfl wl_1184 rfl ⟨(Nat.le_of_ble_eq_true rfl), (Nat.le_of_ble_eq_true rfl)⟩ rfl (Nat.le_of_ble_eq_true rfl) dX11_sellNow_155 ?_
              refine gm_iload_n C dX11_sellNow_158 rfl 2 rfl ?_
              exact gm_iret C hr rfl dX11_sellNow_159 hf
          have hf := hx
          refine gm_if_ne C 132 dX11_sellNow_108 (by decide) (fun c26 => ?_) (fun c26 => ?_)
          · have hf := gm_if _ c26 hf
            refine gm_iload_n C dX11_sellNow_132 rfl 3 rfl ?_
            cases hf
            exact gm_lvp [1, 4, 0] rfl key
          · have hf := gm_it _ c26 hf
            refine gm_aload_n C dX11_sellNow_111 rfl 1 rfl ?_
            refine gm_getr (j := 1) (u := 1) C (Nat.le_of_ble_eq_true rfl) rfl kc_11 (k := 5) rfl (by decide) rfl rfl wl_845 dX11_sellNow_112 ?_
            refine gm_iload_n C dX11_sellNow_115 rfl 3 rfl ?_
            obtain ⟨h27, hf⟩ := gm_ck_s hf
            refine gm_iald C (Nat.le_of_ble_eq_true rfl) rfl rfl h27 dX11_sellNow_116 ?_
            refine gm_iconst (v := 3) C dX11_sellNow_117 (by decide) ?_
            refine gm_icmp_ne C 132 dX11_sellNow_118 (by decide) (fun c28 => ?_) (fun c28 => ?_)
            · have hf := gm_if _ c28 hf
              refine gm_iload_n C dX11_sellNow_132 rfl 3 rfl ?_
              cases hf
              exact gm_lvp [1, 4, 0] rfl key
            · have hf := gm_it _ c28 hf
              refine gm_iload_n C dX11_sellNow_121 rfl 3 rfl ?_
              refine gm_iconst (v := 1) C dX11_sellNow_122 (by decide) ?_
              refine gm_iadd C dX11_sellNow_123 ?_
              refine gm_aload_n C dX11_sellNow_124 rfl 1 rfl ?_
              refine gm_geti C (Nat.le_of_ble_eq_true rfl) rfl kc_11 (k := 4) rfl (by decide) rfl wl_844 dX11_sellNow_125 ?_
              obtain ⟨h29, hf⟩ := gm_iz _ hf
              refine gm_irem C dX11_sellNow_128 h29 ?_
              refine gm_goto C 133 dX11_sellNow_129 (by decide) ?_
              cases hf
              exact gm_lvp [1, 4, 0] rfl key
        · have hf := gm_it _ c21 hf
          refine gm_aload_n C dX11_sellNow_95 rfl 1 rfl ?_
          refine gm_bipush (v := 36) C dX11_sellNow_96 (by decide) ?_
          refine gm_iload_n C dX11_sellNow_98 rfl 3 rfl ?_
          refine gm_iadd C dX11_sellNow_99 ?_
          obtain ⟨S30, eS30, hf⟩ := gm_bp1_s hf
          refine gm_callVv (As := [.int (36 + a1)]) C (Mo_more_c l cf ad eS30) (Nat.le_of_ble_eq_true rfl) rfl kc_11 wy_Mo_more rfl wl_1184 rfl ⟨(Nat.le_of_ble_eq_true rfl), (Nat.le_of_ble_eq_true rfl)⟩ rfl (Nat.le_of_ble_eq_true rfl) dX11_sellNow_100 ?_
          refine gm_goto C 158 dX11_sellNow_103 (by decide) ?_
          refine gm_iload_n C dX11_sellNow_158 rfl 4 rfl ?_
          exact gm_iret C hr rfl dX11_sellNow_159 hf
    · have hf := gm_if _ c10 hf
      refine gm_aload_n C dX11_sellNow_59 rfl 1 rfl ?_
      refine gm_getr (j := 1) (u := 1) C (Nat.le_of_ble_eq_true rfl) rfl kc_11 (k := 5) rfl (by decide) rfl rfl wl_845 dX11_sellNow_60 ?_
      refine gm_iload_n C dX11_sellNow_63 rfl 3 rfl ?_
      obtain ⟨h31, hf⟩ := gm_ck_s hf
      refine gm_iald C (Nat.le_of_ble_eq_true rfl) rfl rfl h31 dX11_sellNow_64 ?_
      refine gm_iconst (v := 1) C dX11_sellNow_65 (by decide) ?_
      refine gm_icmp_ne C 80 dX11_sellNow_66 (by decide) (fun c32 => ?_) (fun c32 => ?_)
      · have hf := gm_if _ c32 hf
        refine gm_iload C dX11_sellNow_80 0 rfl ?_
        refine gm_if_eq C 106 dX11_sellNow_82 (by decide) (fun c33 => ?_) (fun c33 => ?_)
        · have hf := gm_it _ c33 hf
          refine gm_iload C dX11_sellNow_106 0 rfl ?_
          obtain ⟨x34, hx, hf⟩ := gm_bp1_s hf
          have key : gm_G p l e { frames := 6, cells := 0, slots := 0, locals := 141 } s m args below meth c (MQ below (gm_Q cf ad gm_sM 17 (some (.int r)) S') args s 0 0 (gm_A ad 17)) cf ad gm_sM 17 6 S8 133 [(0, .ref (ad 0)), (3, .int x2), (4, .int v9)] [.int x34] := by
            refine gm_istore (lv' := [(5, .int x34), (0, .ref (ad 0)), (3, .int x2), (4, .int v9)]) C dX11_sellNow_133 (by decide) rfl ?_
            refine gm_aload_n C dX11_sellNow_135 rfl 1 rfl ?_
            refine gm_bipush (v := 21) C dX11_sellNow_136 (by decide) ?_
            refine gm_iload C dX11_sellNow_138 0 rfl ?_
            refine gm_iadd C dX11_sellNow_140 ?_
            obtain ⟨S35, eS35, hf⟩ := gm_bp1_s hf
            refine gm_callVv (As := [.int (21 + x34)]) C (Mo_more_c l cf ad eS35) (Nat.le_of_ble_eq_true rfl) rfl kc_11 wy_Mo_more rfl wl_1184 rfl ⟨(Nat.le_of_ble_eq_true rfl), (Nat.le_of_ble_eq_true rfl)⟩ rfl (Nat.le_of_ble_eq_true rfl) dX11_sellNow_141 ?_
            refine gm_iload C dX11_sellNow_144 3 rfl ?_
            refine gm_if_eq C 158 dX11_sellNow_146 (by decide) (fun c36 => ?_) (fun c36 => ?_)
            · have hf := gm_it _ c36 hf
              refine gm_iload_n C dX11_sellNow_158 rfl 2 rfl ?_
              exact gm_iret C hr rfl dX11_sellNow_159 hf
            · have hf := gm_if _ c36 hf
              refine gm_aload_n C dX11_sellNow_149 rfl 1 rfl ?_
              refine gm_bipush (v := 26) C dX11_sellNow_150 (by decide) ?_
              refine gm_iload C dX11_sellNow_152 0 rfl ?_
              refine gm_iadd C dX11_sellNow_154 ?_
              obtain ⟨S37, eS37, hf⟩ := gm_bp1_s hf
              refine gm_callVv (As := [.int (26 + x34)]) C (Mo_more_c l cf ad eS37) (Nat.le_of_ble_eq_true rfl) rfl kc_11 wy_Mo_more rfl wl_1184 rfl ⟨(Nat.le_of_ble_eq_true rfl), (Nat.le_of_ble_eq_true rfl)⟩ rfl (Nat.le_of_ble_eq_true rfl) dX11_sellNow_155 ?_
              refine gm_iload_n C dX11_sellNow_158 rfl 2 rfl ?_
              exact gm_iret C hr rfl dX11_sellNow_159 hf
          have hf := hx
          refine gm_if_ne C 132 dX11_sellNow_108 (by decide) (fun c38 => ?_) (fun c38 => ?_)
          · have hf := gm_if _ c38 hf
            refine gm_iload_n C dX11_sellNow_132 rfl 3 rfl ?_
            cases hf
            exact gm_lvp [1, 4, 0] rfl key
          · have hf := gm_it _ c38 hf
            refine gm_aload_n C dX11_sellNow_111 rfl 1 rfl ?_
            refine gm_getr (j := 1) (u := 1) C (Nat.le_of_ble_eq_true rfl) rfl kc_11 (k := 5) rfl (by decide) rfl rfl wl_845 dX11_sellNow_112 ?_
            refine gm_iload_n C dX11_sellNow_115 rfl 3 rfl ?_
            obtain ⟨h39, hf⟩ := gm_ck_s hf
            refine gm_iald C (Nat.le_of_ble_eq_true rfl) rfl rfl h39 dX11_sellNow_116 ?_
            refine gm_iconst (v := 3) C dX11_sellNow_117 (by decide) ?_
            refine gm_icmp_ne C 132 dX11_sellNow_118 (by decide) (fun c40 => ?_) (fun c40 => ?_)
            · have hf := gm_if _ c40 hf
              refine gm_iload_n C dX11_sellNow_132 rfl 3 rfl ?_
              cases hf
              exact gm_lvp [1, 4, 0] rfl key
            · have hf := gm_it _ c40 hf
              refine gm_iload_n C dX11_sellNow_121 rfl 3 rfl ?_
              refine gm_iconst (v := 1) C dX11_sellNow_122 (by decide) ?_
              refine gm_iadd C dX11_sellNow_123 ?_
              refine gm_aload_n C dX11_sellNow_124 rfl 1 rfl ?_
              refine gm_geti C (Nat.le_of_ble_eq_true rfl) rfl kc_11 (k := 4) rfl (by decide) rfl wl_844 dX11_sellNow_125 ?_
              obtain ⟨h41, hf⟩ := gm_iz _ hf
              refine gm_irem C dX11_sellNow_128 h41 ?_
              refine gm_goto C 133 dX11_sellNow_129 (by decide) ?_
              cases hf
              exact gm_lvp [1, 4, 0] rfl key
        · have hf := gm_if _ c33 hf
          refine gm_aload_n C dX11_sellNow_85 rfl 1 rfl ?_
          refine gm_getr (j := 1) (u := 1) C (Nat.le_of_ble_eq_true rfl) rfl kc_11 (k := 5) rfl (by decide) rfl rfl wl_845 dX11_sellNow_86 ?_
          refine gm_iload_n C dX11_sellNow_89 rfl 3 rfl ?_
          obtain ⟨h42, hf⟩ := gm_ck_s hf
          refine gm_iald C (Nat.le_of_ble_eq_true rfl) rfl rfl h42 dX11_sellNow_90 ?_
          refine gm_iconst (v := 2) C dX11_sellNow_91 (by decide) ?_
          refine gm_icmp_ne C 106 dX11_sellNow_92 (by decide) (fun c43 => ?_) (fun c43 => ?_)
          · have hf := gm_if _ c43 hf
            refine gm_iload C dX11_sellNow_106 0 rfl ?_
            obtain ⟨x44, hx, hf⟩ := gm_bp1_s hf
            have key : gm_G p l e { frames := 6, cells := 0, slots := 0, locals := 141 } s m args below meth c (MQ below (gm_Q cf ad gm_sM 17 (some (.int r)) S') args s 0 0 (gm_A ad 17)) cf ad gm_sM 17 6 S8 133 [(0, .ref (ad 0)), (3, .int x2), (4, .int v9)] [.int x44] := by
              refine gm_istore (lv' := [(5, .int x44), (0, .ref (ad 0)), (3, .int x2), (4, .int v9)]) C dX11_sellNow_133 (by decide) rfl ?_
              refine gm_aload_n C dX11_sellNow_135 rfl 1 rfl ?_
              refine gm_bipush (v := 21) C dX11_sellNow_136 (by decide) ?_
              refine gm_iload C dX11_sellNow_138 0 rfl ?_
              refine gm_iadd C dX11_sellNow_140 ?_
              obtain ⟨S45, eS45, hf⟩ := gm_bp1_s hf
              refine gm_callVv (As := [.int (21 + x44)]) C (Mo_more_c l cf ad eS45) (Nat.le_of_ble_eq_true rfl) rfl kc_11 wy_Mo_more rfl wl_1184 rfl ⟨(Nat.le_of_ble_eq_true rfl), (Nat.le_of_ble_eq_true rfl)⟩ rfl (Nat.le_of_ble_eq_true rfl) dX11_sellNow_141 ?_
              refine gm_iload C dX11_sellNow_144 3 rfl ?_
              refine gm_if_eq C 158 dX11_sellNow_146 (by decide) (fun c46 => ?_) (fun c46 => ?_)
              · have hf := gm_it _ c46 hf
                refine gm_iload_n C dX11_sellNow_158 rfl 2 rfl ?_
                exact gm_iret C hr rfl dX11_sellNow_159 hf
              · have hf := gm_if _ c46 hf
                refine gm_aload_n C dX11_sellNow_149 rfl 1 rfl ?_
                refine gm_bipush (v := 26) C dX11_sellNow_150 (by decide) ?_
                refine gm_iload C dX11_sellNow_152 0 rfl ?_
                refine gm_iadd C dX11_sellNow_154 ?_
                obtain ⟨S47, eS47, hf⟩ := gm_bp1_s hf
                refine gm_callVv (As := [.int (26 + x44)]) C (Mo_more_c l cf ad eS47) (Nat.le_of_ble_eq_true rfl) rfl kc_11 wy_Mo_more rfl wl_1184 rfl ⟨(Nat.le_of_ble_eq_true rfl), (Nat.le_of_ble_eq_true rfl)⟩ rfl (Nat.le_of_ble_eq_true rfl) dX11_sellNow_155 ?_
                refine gm_iload_n C dX11_sellNow_158 rfl 2 rfl ?_
                exact gm_iret C hr rfl dX11_sellNow_159 hf
            have hf := hx
            refine gm_if_ne C 132 dX11_sellNow_108 (by decide) (fun c48 => ?_) (fun c48 => ?_)
            · have hf := gm_if _ c48 hf
              refine gm_iload_n C dX11_sellNow_132 rfl 3 rfl ?_
              cases hf
              exact gm_lvp [1, 4, 0] rfl key
            · have hf := gm_it _ c48 hf
              refine gm_aload_n C dX11_sellNow_111 rfl 1 rfl ?_
              refine gm_getr (j := 1) (u := 1) C (Nat.le_of_ble_eq_true rfl) rfl kc_11 (k := 5) rfl (by decide) rfl rfl wl_845 dX11_sellNow_112 ?_
              refine gm_iload_n C dX11_sellNow_115 rfl 3 rfl ?_
              obtain ⟨h49, hf⟩ := gm_ck_s hf
              refine gm_iald C (Nat.le_of_ble_eq_true rfl) rfl rfl h49 dX11_sellNow_116 ?_
              refine gm_iconst (v := 3) C dX11_sellNow_117 (by decide) ?_
              refine gm_icmp_ne C 132 dX11_sellNow_118 (by decide) (fun c50 => ?_) (fun c50 => ?_)
              · have hf := gm_if _ c50 hf
                refine gm_iload_n C dX11_sellNow_132 rfl 3 rfl ?_
                cases hf
                exact gm_lvp [1, 4, 0] rfl key
              · have hf := gm_it _ c50 hf
                refine gm_iload_n C dX11_sellNow_121 rfl 3 rfl ?_
                refine gm_iconst (v := 1) C dX11_sellNow_122 (by decide) ?_
                refine gm_iadd C dX11_sellNow_123 ?_
                refine gm_aload_n C dX11_sellNow_124 rfl 1 rfl ?_
                refine gm_geti C (Nat.le_of_ble_eq_true rfl) rfl kc_11 (k := 4) rfl (by decide) rfl wl_844 dX11_sellNow_125 ?_
                obtain ⟨h51, hf⟩ := gm_iz _ hf
                refine gm_irem C dX11_sellNow_128 h51 ?_
                refine gm_goto C 133 dX11_sellNow_129 (by decide) ?_
                cases hf
                exact gm_lvp [1, 4, 0] rfl key
          · have hf := gm_it _ c43 hf
            refine gm_aload_n C dX11_sellNow_95 rfl 1 rfl ?_
            refine gm_bipush (v := 36) C dX11_sellNow_96 (by decide) ?_
            refine gm_iload_n C dX11_sellNow_98 rfl 3 rfl ?_
            refine gm_iadd C dX11_sellNow_99 ?_
            obtain ⟨S52, eS52, hf⟩ := gm_bp1_s hf
            refine gm_callVv (As := [.int (36 + a1)]) C (Mo_more_c l cf ad eS52) (Nat.le_of_ble_eq_true rfl) rfl kc_11 wy_Mo_more rfl wl_1184 rfl ⟨(Nat.le_of_ble_eq_true rfl), (Nat.le_of_ble_eq_true rfl)⟩ rfl (Nat.le_of_ble_eq_true rfl) dX11_sellNow_100 ?_
            refine gm_goto C 158 dX11_sellNow_103 (by decide) ?_
            refine gm_iload_n C dX11_sellNow_158 rfl 4 rfl ?_
            exact gm_iret C hr rfl dX11_sellNow_159 hf
      · have hf := gm_it _ c32 hf
        refine gm_aload_n C dX11_sellNow_69 rfl 1 rfl ?_
        refine gm_bipush (v := 31) C dX11_sellNow_70 (by decide) ?_
        refine gm_iload_n C dX11_sellNow_72 rfl 3 rfl ?_
        refine gm_iadd C dX11_sellNow_73 ?_
        obtain ⟨S53, eS53, hf⟩ := gm_bp1_s hf
        refine gm_callVv (As := [.int (31 + a1)]) C (Mo_more_c l cf ad eS53) (Nat.le_of_ble_eq_true rfl) rfl kc_11 wy_Mo_more rfl wl_1184 rfl ⟨(Nat.le_of_ble_eq_true rfl), (Nat.le_of_ble_eq_true rfl)⟩ rfl (Nat.le_of_ble_eq_true rfl) dX11_sellNow_74 ?_
        refine gm_goto C 158 dX11_sellNow_77 (by decide) ?_
        refine gm_iload_n C dX11_sellNow_158 rfl 4 rfl ?_
        exact gm_iret C hr rfl dX11_sellNow_159 hf
  have hf := hx
  refine gm_icmp_ne C 30 dX11_sellNow_23 (by decide) (fun c54 => ?_) (fun c54 => ?_)
  · have hf := gm_if _ c54 hf
    refine gm_iload_n C dX11_sellNow_30 rfl 0 rfl ?_
    refine gm_iconst (v := 1) C dX11_sellNow_31 (by decide) ?_
    refine gm_iadd C dX11_sellNow_32 ?_
    cases hf
    exact gm_lvp [1, 2, 3, 0] rfl key
  · have hf := gm_it _ c54 hf
    refine gm_iconst (v := 0) C dX11_sellNow_26 (by decide) ?_
    refine gm_goto C 33 dX11_sellNow_27 (by decide) ?_
    cases hf
    exact gm_lvp [1, 2, 3, 0] rfl key
theorem dX11_sell_0 : decode cX11_sell 0 = .ok (.aload_n 0, 1) := by decide +kernel
theorem dX11_sell_1 : decode cX11_sell 1 = .ok (.iload_n 1, 1) := by decide +kernel
theorem dX11_sell_2 : decode cX11_sell 2 = .ok (.invokevirtual 252, 3) := by decide +kernel
theorem dX11_sell_5 : decode cX11_sell 5 = .ok (.ifCond .eq 11, 3) := by decide +kernel
theorem dX11_sell_8 : decode cX11_sell 8 = .ok (.aload_n 0, 1) := by decide +kernel
theorem dX11_sell_9 : decode cX11_sell 9 = .ok (.iload_n 2, 1) := by decide +kernel
theorem dX11_sell_10 : decode cX11_sell 10 = .ok (.invokevirtual 262, 3) := by decide +kernel
theorem dX11_sell_13 : decode cX11_sell 13 = .ok (.ifCond .ne 6, 3) := by decide +kernel
theorem dX11_sell_16 : decode cX11_sell 16 = .ok (.ldc 251, 2) := by decide +kernel
theorem dX11_sell_18 : decode cX11_sell 18 = .ok (.ireturn, 1) := by decide +kernel
theorem dX11_sell_19 : decode cX11_sell 19 = .ok (.aload_n 0, 1) := by decide +kernel
theorem dX11_sell_20 : decode cX11_sell 20 = .ok (.getfield 13, 3) := by decide +kernel
theorem dX11_sell_23 : decode cX11_sell 23 = .ok (.bipush 17, 2) := by decide +kernel
theorem dX11_sell_25 : decode cX11_sell 25 = .ok (.iload_n 1, 1) := by decide +kernel
theorem dX11_sell_26 : decode cX11_sell 26 = .ok (.iadd, 1) := by decide +kernel
theorem dX11_sell_27 : decode cX11_sell 27 = .ok (.iaload, 1) := by decide +kernel
theorem dX11_sell_28 : decode cX11_sell 28 = .ok (.ifCond .ne 7, 3) := by decide +kernel
theorem dX11_sell_31 : decode cX11_sell 31 = .ok (.ldc_w 272, 3) := by decide +kernel
theorem dX11_sell_34 : decode cX11_sell 34 = .ok (.ireturn, 1) := by decide +kernel
theorem dX11_sell_35 : decode cX11_sell 35 = .ok (.aload_n 0, 1) := by decide +kernel
theorem dX11_sell_36 : decode cX11_sell 36 = .ok (.invokevirtual 273, 3) := by decide +kernel
theorem dX11_sell_39 : decode cX11_sell 39 = .ok (.aload_n 0, 1) := by decide +kernel
theorem dX11_sell_40 : decode cX11_sell 40 = .ok (.iload_n 1, 1) := by decide +kernel
theorem dX11_sell_41 : decode cX11_sell 41 = .ok (.iload_n 2, 1) := by decide +kernel
theorem dX11_sell_42 : decode cX11_sell 42 = .ok (.invokevirtual 276, 3) := by decide +kernel
theorem dX11_sell_45 : decode cX11_sell 45 = .ok (.ireturn, 1) := by decide +kernel
def Mo_sell (fl : Nat) (a0 : Int32) (a1 : Int32) (S : gm_M) : Option (Int32 × gm_M) :=
  gm_bp1 (Mo_isRoll a0 S) fun v1 =>
  if v1 = 0 then (
    some ((-1000000001), S)
  ) else (
    gm_bp1 (Mo_isRider a1 S) fun v3 =>
    if v3 = 0 then (
      some ((-1000000001), S)
    ) else (
      gm_ck (17 + a0) 42 <|
      if S.1 2 (17 + a0).toNatClampNeg = 0 then (
        some ((-1000000003), S)
      ) else (
        gm_bp1 (Mo_remember fl S) fun S7 =>
        gm_bp2 (Mo_sellNow fl a0 a1 S7) fun v8 S9 =>
        some (v8, S9)
      )
    )
  )
set_option maxHeartbeats 4000000 in
set_option maxRecDepth 100000 in
theorem Mo_sell_c (l : Launch) (cf : gm_C) (ad : Nat → Nat) {fl : Nat}   {a0 : Int32} {a1 : Int32} {S : gm_M} {r : Int32} {S'  : gm_M} (hf : Mo_sell fl a0 a1 S = some (r, S')) : gm_Met l yX11_sell cX11_sell 3 (some .int) 7 166 cf ad gm_sM 17 [.ref (ad 0), .int a0, .int a1] S (some (.int r)) S' := by
  refine gm_met (by decide +kernel) (Nat.le_of_ble_eq_true rfl) ?_
  intro p e s m args below meth c C hr
  have C : gm_F p s m args meth c cf ad 17 cX11_sell 3 RX11 := C
  refine gm_lve (lv' := [(0, .ref (ad 0)), (1, .int a0), (2, .int a1)]) rfl ?_
  unfold Mo_sell at hf
  refine gm_aload_n C dX11_sell_0 rfl 0 rfl ?_
  refine gm_iload_n C dX11_sell_1 rfl 1 rfl ?_
  obtain ⟨v1, ev1, hf⟩ := gm_bp1_s hf
  refine gm_callVi (As := [.int a0]) C (Mo_isRoll_c l cf ad ev1) (Nat.le_of_ble_eq_true rfl) rfl kc_11 wy_Mo_isRoll rfl wl_1139 rfl ⟨(Nat.le_of_ble_eq_true rfl), (Nat.le_of_ble_eq_true rfl)⟩ rfl (Nat.le_of_ble_eq_true rfl) dX11_sell_2 ?_
  refine gm_if_eq C 16 dX11_sell_5 (by decide) (fun c2 => ?_) (fun c2 => ?_)
  · have hf := gm_it _ c2 hf
    refine gm_ldc (v := (-1000000001)) C wl_1134 dX11_sell_16 ?_
    exact gm_iret C hr rfl dX11_sell_18 hf
  · have hf := gm_if _ c2 hf
    refine gm_aload_n C dX11_sell_8 rfl 0 rfl ?_
    refine gm_iload_n C dX11_sell_9 rfl 2 rfl ?_
    obtain ⟨v3, ev3, hf⟩ := gm_bp1_s hf
    refine gm_callVi (As := [.int a1]) C (Mo_isRider_c l cf ad ev3) (Nat.le_of_ble_eq_true rfl) rfl kc_11 wy_Mo_isRider rfl wl_1159 rfl ⟨(Nat.le_of_ble_eq_true rfl), (Nat.le_of_ble_eq_true rfl)⟩ rfl (Nat.le_of_ble_eq_true rfl) dX11_sell_10 ?_
    refine gm_if_ne C 19 dX11_sell_13 (by decide) (fun c4 => ?_) (fun c4 => ?_)
    · have hf := gm_if _ c4 hf
      refine gm_aload_n C dX11_sell_19 rfl 0 rfl ?_
      refine gm_getr (j := 2) (u := 2) C (Nat.le_of_ble_eq_true rfl) rfl kc_11 (k := 6) rfl (by decide) rfl rfl wl_846 dX11_sell_20 ?_
      refine gm_bipush (v := 17) C dX11_sell_23 (by decide) ?_
      refine gm_iload_n C dX11_sell_25 rfl 1 rfl ?_
      refine gm_iadd C dX11_sell_26 ?_
      obtain ⟨h5, hf⟩ := gm_ck_s hf
      refine gm_iald C (Nat.le_of_ble_eq_true rfl) rfl rfl h5 dX11_sell_27 ?_
      refine gm_if_ne C 35 dX11_sell_28 (by decide) (fun c6 => ?_) (fun c6 => ?_)
      · have hf := gm_if _ c6 hf
        refine gm_aload_n C dX11_sell_35 rfl 0 rfl ?_
        obtain ⟨S7, eS7, hf⟩ := gm_bp1_s hf
        refine gm_callVv (As := []) C (Mo_remember_c l cf ad eS7) (Nat.le_of_ble_eq_true rfl) rfl kc_11 wy_Mo_remember rfl wl_1176 rfl ⟨(Nat.le_of_ble_eq_true rfl), (Nat.le_of_ble_eq_true rfl)⟩ rfl (Nat.le_of_ble_eq_true rfl) dX11_sell_36 ?_
        refine gm_aload_n C dX11_sell_39 rfl 0 rfl ?_
        refine gm_iload_n C dX11_sell_40 rfl 1 rfl ?_
        refine gm_iload_n C dX11_sell_41 rfl 2 rfl ?_
        obtain ⟨v8, S9, eS9, hf⟩ := gm_bp2_s hf
        refine gm_callVi (As := [.int a0, .int a1]) C (Mo_sellNow_c l cf ad eS9) (Nat.le_of_ble_eq_true rfl) rfl kc_11 wy_Mo_sellNow rfl wl_1180 rfl ⟨(Nat.le_of_ble_eq_true rfl), (Nat.le_of_ble_eq_true rfl)⟩ rfl (Nat.le_of_ble_eq_true rfl) dX11_sell_42 ?_
        exact gm_iret C hr rfl dX11_sell_45 hf
      · have hf := gm_it _ c6 hf
        refine gm_ldcw (v := (-1000000003)) C wl_1175 dX11_sell_31 ?_
        exact gm_iret C hr rfl dX11_sell_34 hf
    · have hf := gm_it _ c4 hf
      refine gm_ldc (v := (-1000000001)) C wl_1134 dX11_sell_16 ?_
      exact gm_iret C hr rfl dX11_sell_18 hf
theorem dX11_line_0 : decode cX11_line 0 = .ok (.aload_n 0, 1) := by decide +kernel
theorem dX11_line_1 : decode cX11_line 1 = .ok (.iload_n 1, 1) := by decide +kernel
theorem dX11_line_2 : decode cX11_line 2 = .ok (.invokevirtual 252, 3) := by decide +kernel
theorem dX11_line_5 : decode cX11_line 5 = .ok (.ifCond .ne 6, 3) := by decide +kernel
theorem dX11_line_8 : decode cX11_line 8 = .ok (.ldc 251, 2) := by decide +kernel
theorem dX11_line_10 : decode cX11_line 10 = .ok (.ireturn, 1) := by decide +kernel
theorem dX11_line_11 : decode cX11_line 11 = .ok (.iload_n 2, 1) := by decide +kernel
theorem dX11_line_12 : decode cX11_line 12 = .ok (.i2l, 1) := by decide +kernel
theorem dX11_line_13 : decode cX11_line 13 = .ok (.lconst 1, 1) := by decide +kernel
theorem dX11_line_14 : decode cX11_line 14 = .ok (.ldc2_w 279, 3) := by decide +kernel
theorem dX11_line_17 : decode cX11_line 17 = .ok (.invokestatic 69, 3) := by decide +kernel
theorem dX11_line_20 : decode cX11_line 20 = .ok (.ifCond .ne 6, 3) := by decide +kernel
theorem dX11_line_23 : decode cX11_line 23 = .ok (.ldc 96, 2) := by decide +kernel
theorem dX11_line_25 : decode cX11_line 25 = .ok (.ireturn, 1) := by decide +kernel
theorem dX11_line_26 : decode cX11_line 26 = .ok (.aload_n 0, 1) := by decide +kernel
theorem dX11_line_27 : decode cX11_line 27 = .ok (.getfield 76, 3) := by decide +kernel
theorem dX11_line_30 : decode cX11_line 30 = .ok (.ifCond .eq 16, 3) := by decide +kernel
theorem dX11_line_33 : decode cX11_line 33 = .ok (.aload_n 0, 1) := by decide +kernel
theorem dX11_line_34 : decode cX11_line 34 = .ok (.getfield 13, 3) := by decide +kernel
theorem dX11_line_37 : decode cX11_line 37 = .ok (.bipush 17, 2) := by decide +kernel
theorem dX11_line_39 : decode cX11_line 39 = .ok (.iload_n 1, 1) := by decide +kernel
theorem dX11_line_40 : decode cX11_line 40 = .ok (.iadd, 1) := by decide +kernel
theorem dX11_line_41 : decode cX11_line 41 = .ok (.iaload, 1) := by decide +kernel
theorem dX11_line_42 : decode cX11_line 42 = .ok (.iload_n 2, 1) := by decide +kernel
theorem dX11_line_43 : decode cX11_line 43 = .ok (.if_icmp .ge 7, 3) := by decide +kernel
theorem dX11_line_46 : decode cX11_line 46 = .ok (.ldc_w 272, 3) := by decide +kernel
theorem dX11_line_49 : decode cX11_line 49 = .ok (.ireturn, 1) := by decide +kernel
theorem dX11_line_50 : decode cX11_line 50 = .ok (.aload_n 0, 1) := by decide +kernel
theorem dX11_line_51 : decode cX11_line 51 = .ok (.invokevirtual 273, 3) := by decide +kernel
theorem dX11_line_54 : decode cX11_line 54 = .ok (.iconst 0, 1) := by decide +kernel
theorem dX11_line_55 : decode cX11_line 55 = .ok (.istore_n 3, 1) := by decide +kernel
theorem dX11_line_56 : decode cX11_line 56 = .ok (.iconst 0, 1) := by decide +kernel
theorem dX11_line_57 : decode cX11_line 57 = .ok (.istore 4, 2) := by decide +kernel
theorem dX11_line_59 : decode cX11_line 59 = .ok (.iload 4, 2) := by decide +kernel
theorem dX11_line_61 : decode cX11_line 61 = .ok (.iload_n 2, 1) := by decide +kernel
theorem dX11_line_62 : decode cX11_line 62 = .ok (.if_icmp .ge 36, 3) := by decide +kernel
theorem dX11_line_65 : decode cX11_line 65 = .ok (.iload_n 3, 1) := by decide +kernel
theorem dX11_line_66 : decode cX11_line 66 = .ok (.aload_n 0, 1) := by decide +kernel
theorem dX11_line_67 : decode cX11_line 67 = .ok (.aload_n 0, 1) := by decide +kernel
theorem dX11_line_68 : decode cX11_line 68 = .ok (.iload_n 1, 1) := by decide +kernel
theorem dX11_line_69 : decode cX11_line 69 = .ok (.iload 4, 2) := by decide +kernel
theorem dX11_line_71 : decode cX11_line 71 = .ok (.aload_n 0, 1) := by decide +kernel
theorem dX11_line_72 : decode cX11_line 72 = .ok (.getfield 76, 3) := by decide +kernel
theorem dX11_line_75 : decode cX11_line 75 = .ok (.irem, 1) := by decide +kernel
theorem dX11_line_76 : decode cX11_line 76 = .ok (.invokevirtual 276, 3) := by decide +kernel
theorem dX11_line_79 : decode cX11_line 79 = .ok (.invokevirtual 224, 3) := by decide +kernel
theorem dX11_line_82 : decode cX11_line 82 = .ok (.ifCond .eq 7, 3) := by decide +kernel
theorem dX11_line_85 : decode cX11_line 85 = .ok (.iconst 1, 1) := by decide +kernel
theorem dX11_line_86 : decode cX11_line 86 = .ok (.goto 4, 3) := by decide +kernel
theorem dX11_line_89 : decode cX11_line 89 = .ok (.iconst 0, 1) := by decide +kernel
theorem dX11_line_90 : decode cX11_line 90 = .ok (.iadd, 1) := by decide +kernel
theorem dX11_line_91 : decode cX11_line 91 = .ok (.istore_n 3, 1) := by decide +kernel
theorem dX11_line_92 : decode cX11_line 92 = .ok (.iinc 4 1, 3) := by decide +kernel
theorem dX11_line_95 : decode cX11_line 95 = .ok (.goto (-36), 3) := by decide +kernel
theorem dX11_line_98 : decode cX11_line 98 = .ok (.iload_n 3, 1) := by decide +kernel
theorem dX11_line_99 : decode cX11_line 99 = .ok (.ireturn, 1) := by decide +kernel
def Mo_line_L59_b (fl : Nat) (a0 : Int32) (a1 : Int32) (rec : Int32 → Int32 → gm_M → Option (Int32 × gm_M)) (y9 : Int32) (y10 : Int32) (S11 : gm_M) : Option (Int32 × gm_M) :=
  if a1 ≤ y10 then (
    some (y9, S11)
  ) else (
    if S11.1 0 4 = 0 then none else
    gm_bp2 (Mo_sellNow fl a0 (gm_rm y10 (S11.1 0 4)) S11) fun v16 S17 =>
    gm_bp1 (Mo_isLucky fl v16 S17) fun v18 =>
    gm_bp1 (show Option (Int32) from
      if v18 = 0 then (
        some (0)
      ) else (
        some (1)
      )
    ) fun x19 =>
    gm_lt (α := Int32) (y9 + x19) fun x20 =>
    gm_lt (α := Int32) (y10 + 1) fun x21 =>
    rec x20 x21 S17
  )
def Mo_line_L59 (fl : Nat) (a0 : Int32) (a1 : Int32) : Nat → Int32 → Int32 → gm_M → Option (Int32 × gm_M)
  | 0 => fun _ _ _ => none
  | n + 1 => Mo_line_L59_b fl a0 a1 (Mo_line_L59 fl a0 a1 n)
def Mo_line (fl : Nat) (a0 : Int32) (a1 : Int32) (S : gm_M) : Option (Int32 × gm_M) :=
  gm_bp1 (Mo_isRoll a0 S) fun v1 =>
  if v1 = 0 then (
    some ((-1000000001), S)
  ) else (
    gm_bp1 (Mo_in ((a1 : Int32).toInt64) 1 60) fun v3 =>
    if v3 = 0 then (
      some ((-1000000002), S)
    ) else (
      if S.1 0 4 = 0 then (
        some ((-1000000003), S)
      ) else (
        gm_ck (17 + a0) 42 <|
        if a1 ≤ S.1 2 (17 + a0).toNatClampNeg then (
          gm_bp1 (Mo_remember fl S) fun S8 =>
          gm_bp2 (Mo_line_L59 fl a0 a1 fl 0 0 S8) fun z12 S13 =>
          some (z12, S13)
        ) else (
          some ((-1000000003), S)
        )
      )
    )
  )
set_option maxHeartbeats 4000000 in
set_option maxRecDepth 100000 in
theorem Mo_line_c (l : Launch) (cf : gm_C) (ad : Nat → Nat) {fl : Nat}   {a0 : Int32} {a1 : Int32} {S : gm_M} {r : Int32} {S'  : gm_M} (hf : Mo_line fl a0 a1 S = some (r, S')) : gm_Met l yX11_line cX11_line 5 (some .int) 7 166 cf ad gm_sM 17 [.ref (ad 0), .int a0, .int a1] S (some (.int r)) S' := by
  refine gm_met (by decide +kernel) (Nat.le_of_ble_eq_true rfl) ?_
  intro p e s m args below meth c C hr
  have C : gm_F p s m args meth c cf ad 17 cX11_line 5 RX11 := C
  refine gm_lve (lv' := [(0, .ref (ad 0)), (1, .int a0), (2, .int a1)]) rfl ?_
  unfold Mo_line at hf
  refine gm_aload_n C dX11_line_0 rfl 0 rfl ?_
  refine gm_iload_n C dX11_line_1 rfl 1 rfl ?_
  obtain ⟨v1, ev1, hf⟩ := gm_bp1_s hf
  refine gm_callVi (As := [.int a0]) C (Mo_isRoll_c l cf ad ev1) (Nat.le_of_ble_eq_true rfl) rfl kc_11 wy_Mo_isRoll rfl wl_1139 rfl ⟨(Nat.le_of_ble_eq_true rfl), (Nat.le_of_ble_eq_true rfl)⟩ rfl (Nat.le_of_ble_eq_true rfl) dX11_line_2 ?_
  refine gm_if_ne C 11 dX11_line_5 (by decide) (fun c2 => ?_) (fun c2 => ?_)
  · have hf := gm_if _ c2 hf
    refine gm_iload_n C dX11_line_11 rfl 2 rfl ?_
    refine gm_i2l C dX11_line_12 rfl ?_
    refine gm_lconst (v := 1) C dX11_line_13 (by decide) ?_
    refine gm_ldc2 (v := 60) C wl_1192 dX11_line_14 ?_
    obtain ⟨v3, ev3, hf⟩ := gm_bp1_s hf
    refine gm_callSi (As := [.long ((a1 : Int32).toInt64), .long 1, .long 60]) C (Mo_in_c l cf ad ev3 (S := S)) wy_Mo_in wl_957 rfl ⟨(Nat.le_of_ble_eq_true rfl), (Nat.le_of_ble_eq_true rfl)⟩ rfl (Nat.le_of_ble_eq_true rfl) dX11_line_17 ?_
    refine gm_if_ne C 26 dX11_line_20 (by decide) (fun c4 => ?_) (fun c4 => ?_)
    · have hf := gm_if _ c4 hf
      refine gm_aload_n C dX11_line_26 rfl 0 rfl ?_
      refine gm_geti C (Nat.le_of_ble_eq_true rfl) rfl kc_11 (k := 4) rfl (by decide) rfl wl_844 dX11_line_27 ?_
      refine gm_if_eq C 46 dX11_line_30 (by decide) (fun c5 => ?_) (fun c5 => ?_)
      · have hf := gm_it _ c5 hf
        refine gm_ldcw (v := (-1000000003)) C wl_1175 dX11_line_46 ?_
        exact gm_iret C hr rfl dX11_line_49 hf
      · have hf := gm_if _ c5 hf
        refine gm_aload_n C dX11_line_33 rfl 0 rfl ?_
        refine gm_getr (j := 2) (u := 2) C (Nat.le_of_ble_eq_true rfl) rfl kc_11 (k := 6) rfl (by decide) rfl rfl wl_846 dX11_line_34 ?_
        refine gm_bipush (v := 17) C dX11_line_37 (by decide) ?_
        refine gm_iload_n C dX11_line_39 rfl 1 rfl ?_
        refine gm_iadd C dX11_line_40 ?_
        obtain ⟨h6, hf⟩ := gm_ck_s hf
        refine gm_iald C (Nat.le_of_ble_eq_true rfl) rfl rfl h6 dX11_line_41 ?_
        refine gm_iload_n C dX11_line_42 rfl 2 rfl ?_
        refine gm_icmp_ge C 50 dX11_line_43 (by decide) (fun c7 => ?_) (fun c7 => ?_)
        · have hf := gm_it _ c7 hf
          refine gm_aload_n C dX11_line_50 rfl 0 rfl ?_
          obtain ⟨S8, eS8, hf⟩ := gm_bp1_s hf
          refine gm_callVv (As := []) C (Mo_remember_c l cf ad eS8) (Nat.le_of_ble_eq_true rfl) rfl kc_11 wy_Mo_remember rfl wl_1176 rfl ⟨(Nat.le_of_ble_eq_true rfl), (Nat.le_of_ble_eq_true rfl)⟩ rfl (Nat.le_of_ble_eq_true rfl) dX11_line_51 ?_
          refine gm_iconst (v := 0) C dX11_line_54 (by decide) ?_
          refine gm_istore_n (lv' := [(3, .int 0), (0, .ref (ad 0)), (1, .int a0), (2, .int a1)]) C dX11_line_55 rfl (by decide) rfl ?_
          refine gm_iconst (v := 0) C dX11_line_56 (by decide) ?_
          refine gm_istore (lv' := [(4, .int 0), (3, .int 0), (0, .ref (ad 0)), (1, .int a0), (2, .int a1)]) C dX11_line_57 (by decide) rfl ?_
          have L59 : ∀ (n : Nat) (y9 : Int32) (y10 : Int32) (S11 : gm_M) (z12 : Int32) (S13 : gm_M), Mo_line_L59 fl a0 a1 n y9 y10 S11 = some (z12, S13) → gm_G p l e { frames := 7, cells := 0, slots := 0, locals := 166 } s m args below meth c (MQ below (gm_Q cf ad gm_sM 17 (some (.int r)) S') args s 0 0 (gm_A ad 17)) cf ad gm_sM 17 5 S13 98 [(3, .int z12)] [] → gm_G p l e { frames := 7, cells := 0, slots := 0, locals := 166 } s m args below meth c (MQ below (gm_Q cf ad gm_sM 17 (some (.int r)) S') args s 0 0 (gm_A ad 17)) cf ad gm_sM 17 5 S11 59 [(0, .ref (ad 0)), (1, .int a0), (2, .int a1), (3, .int y9), (4, .int y10)] [] := by
            intro n
            induction n with
            | zero => intro y9 y10 S11 z12 S13 hf K; cases (show (none : Option _) = some _ from hf)
            | succ n ih =>
              intro y9 y10 S11 z12 S13 hf K
              have hf : Mo_line_L59_b fl a0 a1 (Mo_line_L59 fl a0 a1 n) y9 y10 S11 = some (z12, S13) := hf
              unfold Mo_line_L59_b at hf
              refine gm_iload C dX11_line_59 4 rfl ?_
              refine gm_iload_n C dX11_line_61 rfl 2 rfl ?_
              refine gm_icmp_ge C 98 dX11_line_62 (by decide) (fun c14 => ?_) (fun c14 => ?_)
              · have hf := gm_it _ c14 hf
                cases hf
                exact gm_lvp [3] rfl K
              · have hf := gm_if _ c14 hf
                refine gm_iload_n C dX11_line_65 rfl 3 rfl ?_
                refine gm_aload_n C dX11_line_66 rfl 0 rfl ?_
                refine gm_aload_n C dX11_line_67 rfl 0 rfl ?_
                refine gm_iload_n C dX11_line_68 rfl 1 rfl ?_
                refine gm_iload C dX11_line_69 4 rfl ?_
                refine gm_aload_n C dX11_line_71 rfl 0 rfl ?_
                refine gm_geti C (Nat.le_of_ble_eq_true rfl) rfl kc_11 (k := 4) rfl (by decide) rfl wl_844 dX11_line_72 ?_
                obtain ⟨h15, hf⟩ := gm_iz _ hf
                refine gm_irem C dX11_line_75 h15 ?_
                obtain ⟨v16, S17, eS17, hf⟩ := gm_bp2_s hf
                refine gm_callVi (As := [.int a0, .int (gm_rm y10 (S11.1 0 4))]) C (Mo_sellNow_c l cf ad eS17) (Nat.le_of_ble_eq_true rfl) rfl kc_11 wy_Mo_sellNow rfl wl_1180 rfl ⟨(Nat.le_of_ble_eq_true rfl), (Nat.le_of_ble_eq_true rfl)⟩ rfl (Nat.le_of_ble_eq_true rfl) dX11_line_76 ?_
                obtain ⟨v18, ev18, hf⟩ := gm_bp1_s hf
                refine gm_callVi (As := [.int v16]) C (Mo_isLucky_c l cf ad ev18) (Nat.le_of_ble_eq_true rfl) rfl kc_11 wy_Mo_isLucky rfl wl_1086 rfl ⟨(Nat.le_of_ble_eq_true rfl), (Nat.le_of_ble_eq_true rfl)⟩ rfl (Nat.le_of_ble_eq_true rfl) dX11_line_79 ?_
                obtain ⟨x19, hx, hf⟩ := gm_bp1_s hf
                have key : gm_G p l e { frames := 7, cells := 0, slots := 0, locals := 166 } s m args below meth c (MQ below (gm_Q cf ad gm_sM 17 (some (.int r)) S') args s 0 0 (gm_A ad 17)) cf ad gm_sM 17 5 S17 90 [(0, .ref (ad 0)), (1, .int a0), (2, .int a1), (4, .int y10)] [.int x19, .int y9] := by
                  refine gm_iadd C dX11_line_90 ?_
                  obtain ⟨x20, ex20, hf⟩ := gm_lt_s hf
                  refine gm_topi ex20 ?_
                  refine gm_istore_n (lv' := [(3, .int x20), (0, .ref (ad 0)), (1, .int a0), (2, .int a1), (4, .int y10)]) C dX11_line_91 rfl (by decide) rfl ?_
                  obtain ⟨x21, ex21, hf⟩ := gm_lt_s hf
                  refine gm_iinc (v := x21) (lv' := [(4, .int x21), (3, .int x20), (0, .ref (ad 0)), (1, .int a0), (2, .int a1)]) (j := 4) C dX11_line_92 rfl (by rw [ex21]; rfl) (by decide) rfl ?_
                  refine gm_goto C 59 dX11_line_95 (by decide) ?_
                  exact gm_lvp [2, 3, 4, 1, 0] rfl (ih _ _ _ _ _ hf K)
                have hf := hx
                refine gm_if_eq C 89 dX11_line_82 (by decide) (fun c22 => ?_) (fun c22 => ?_)
                · have hf := gm_it _ c22 hf
                  refine gm_iconst (v := 0) C dX11_line_89 (by decide) ?_
                  cases hf
                  exact gm_lvp [0, 1, 2, 4] rfl key
                · have hf := gm_if _ c22 hf
                  refine gm_iconst (v := 1) C dX11_line_85 (by decide) ?_
                  refine gm_goto C 90 dX11_line_86 (by decide) ?_
                  cases hf
                  exact gm_lvp [0, 1, 2, 4] rfl key
          obtain ⟨z12, S13, hx, hf⟩ := gm_bp2_s hf
          refine gm_lvp [2, 3, 4, 1, 0] rfl (L59 fl _ _ _ _ _ hx ?_)
          refine gm_iload_n C dX11_line_98 rfl 0 rfl ?_
          exact gm_iret C hr rfl dX11_line_99 hf
        · have hf := gm_if _ c7 hf
          refine gm_ldcw (v := (-1000000003)) C wl_1175 dX11_line_46 ?_
          exact gm_iret C hr rfl dX11_line_49 hf
    · have hf := gm_it _ c4 hf
      refine gm_ldc (v := (-1000000002)) C wl_960 dX11_line_23 ?_
      exact gm_iret C hr rfl dX11_line_25 hf
  · have hf := gm_it _ c2 hf
    refine gm_ldc (v := (-1000000001)) C wl_1134 dX11_line_8 ?_
    exact gm_iret C hr rfl dX11_line_10 hf
