theorem dX11_takeMode_0 : decode cX11_takeMode 0 = .ok (.aload_n 0, 1) := by decide +kernel
theorem dX11_takeMode_1 : decode cX11_takeMode 1 = .ok (.iconst 1, 1) := by decide +kernel
theorem dX11_takeMode_2 : decode cX11_takeMode 2 = .ok (.putfield 132, 3) := by decide +kernel
theorem dX11_takeMode_5 : decode cX11_takeMode 5 = .ok (.aload_n 0, 1) := by decide +kernel
theorem dX11_takeMode_6 : decode cX11_takeMode 6 = .ok (.iconst 0, 1) := by decide +kernel
theorem dX11_takeMode_7 : decode cX11_takeMode 7 = .ok (.iconst 1, 1) := by decide +kernel
theorem dX11_takeMode_8 : decode cX11_takeMode 8 = .ok (.invokevirtual 123, 3) := by decide +kernel
theorem dX11_takeMode_11 : decode cX11_takeMode 11 = .ok (.istore_n 1, 1) := by decide +kernel
theorem dX11_takeMode_12 : decode cX11_takeMode 12 = .ok (.aload_n 0, 1) := by decide +kernel
theorem dX11_takeMode_13 : decode cX11_takeMode 13 = .ok (.aload_n 0, 1) := by decide +kernel
theorem dX11_takeMode_14 : decode cX11_takeMode 14 = .ok (.getfield 119, 3) := by decide +kernel
theorem dX11_takeMode_17 : decode cX11_takeMode 17 = .ok (.putfield 136, 3) := by decide +kernel
theorem dX11_takeMode_20 : decode cX11_takeMode 20 = .ok (.iload_n 1, 1) := by decide +kernel
theorem dX11_takeMode_21 : decode cX11_takeMode 21 = .ok (.ireturn, 1) := by decide +kernel
def Mo_takeMode (fl : Nat) (S : gm_M) : Option (Int32 × gm_M) :=
  gm_lt (α := gm_M) (gm_ui S 0 16 1) fun S1 =>
  gm_bp2 (Mo_takeNumber fl 0 1 S1) fun v2 S3 =>
  gm_lt (α := gm_M) (gm_ui S3 0 17 (S3.1 0 12)) fun S4 =>
  some (v2, S4)
set_option maxHeartbeats 4000000 in
set_option maxRecDepth 100000 in
theorem Mo_takeMode_c (l : Launch) (cf : gm_C) (ad : Nat → Nat) {fl : Nat}    {S : gm_M} {r : Int32} {S'  : gm_M} (hf : Mo_takeMode fl S = some (r, S')) : gm_Met l yX11_takeMode cX11_takeMode 2 (some .int) 2 48 cf ad gm_sM 17 [.ref (ad 0)] S (some (.int r)) S' := by
  refine gm_met (by decide +kernel) (Nat.le_of_ble_eq_true rfl) ?_
  intro p e s m args below meth c C hr
  have C : gm_F p s m args meth c cf ad 17 cX11_takeMode 2 RX11 := C
  refine gm_lve (lv' := [(0, .ref (ad 0))]) rfl ?_
  unfold Mo_takeMode at hf
  refine gm_aload_n C dX11_takeMode_0 rfl 0 rfl ?_
  refine gm_iconst (v := 1) C dX11_takeMode_1 (by decide) ?_
  refine gm_puti C (Nat.le_of_ble_eq_true rfl) rfl kc_11 (k := 16) rfl (by decide) rfl rfl (kc_11.2.2.2.1 16 (by decide)) rfl rfl wl_856 dX11_takeMode_2 ?_
  obtain ⟨S1, eS1, hf⟩ := gm_lt_s hf
  refine gm_topm eS1 ?_
  refine gm_aload_n C dX11_takeMode_5 rfl 0 rfl ?_
  refine gm_iconst (v := 0) C dX11_takeMode_6 (by decide) ?_
  refine gm_iconst (v := 1) C dX11_takeMode_7 (by decide) ?_
  obtain ⟨v2, S3, eS3, hf⟩ := gm_bp2_s hf
  refine gm_callVi (As := [.int 0, .int 1]) C (Mo_takeNumber_c l cf ad eS3) (Nat.le_of_ble_eq_true rfl) rfl kc_11 wy_Mo_takeNumber rfl wl_990 rfl ⟨(Nat.le_of_ble_eq_true rfl), (Nat.le_of_ble_eq_true rfl)⟩ rfl (Nat.le_of_ble_eq_true rfl) dX11_takeMode_8 ?_
  refine gm_istore_n (lv' := [(1, .int v2), (0, .ref (ad 0))]) C dX11_takeMode_11 rfl (by decide) rfl ?_
  refine gm_aload_n C dX11_takeMode_12 rfl 1 rfl ?_
  refine gm_aload_n C dX11_takeMode_13 rfl 1 rfl ?_
  refine gm_geti C (Nat.le_of_ble_eq_true rfl) rfl kc_11 (k := 12) rfl (by decide) rfl wl_852 dX11_takeMode_14 ?_
  refine gm_puti C (Nat.le_of_ble_eq_true rfl) rfl kc_11 (k := 17) rfl (by decide) rfl rfl (kc_11.2.2.2.1 17 (by decide)) rfl rfl wl_857 dX11_takeMode_17 ?_
  obtain ⟨S4, eS4, hf⟩ := gm_lt_s hf
  refine gm_topm eS4 ?_
  refine gm_iload_n C dX11_takeMode_20 rfl 0 rfl ?_
  exact gm_iret C hr rfl dX11_takeMode_21 hf
theorem dX11_into_0 : decode cX11_into 0 = .ok (.aload_n 0, 1) := by decide +kernel
theorem dX11_into_1 : decode cX11_into 1 = .ok (.iload_n 3, 1) := by decide +kernel
theorem dX11_into_2 : decode cX11_into 2 = .ok (.iload 4, 2) := by decide +kernel
theorem dX11_into_4 : decode cX11_into 4 = .ok (.invokevirtual 123, 3) := by decide +kernel
theorem dX11_into_7 : decode cX11_into 7 = .ok (.istore 5, 2) := by decide +kernel
theorem dX11_into_9 : decode cX11_into 9 = .ok (.aload_n 1, 1) := by decide +kernel
theorem dX11_into_10 : decode cX11_into 10 = .ok (.iload_n 2, 1) := by decide +kernel
theorem dX11_into_11 : decode cX11_into 11 = .ok (.aload_n 0, 1) := by decide +kernel
theorem dX11_into_12 : decode cX11_into 12 = .ok (.getfield 119, 3) := by decide +kernel
theorem dX11_into_15 : decode cX11_into 15 = .ok (.iastore, 1) := by decide +kernel
theorem dX11_into_16 : decode cX11_into 16 = .ok (.iload 5, 2) := by decide +kernel
theorem dX11_into_18 : decode cX11_into 18 = .ok (.ireturn, 1) := by decide +kernel
def Mo_into (fl : Nat) (w : Nat) (a1 : Int32) (a2 : Int32) (a3 : Int32) (S : gm_M) : Option (Int32 × gm_M) :=
  gm_bp2 (Mo_takeNumber fl a2 a3 S) fun v1 S2 =>
  gm_ck (a1) (gm_sM w).2.1 <|
  gm_lt (α := gm_M) (gm_ui S2 w (a1.toNatClampNeg) (S2.1 0 12)) fun S4 =>
  some (v1, S4)
set_option maxHeartbeats 4000000 in
set_option maxRecDepth 100000 in
theorem Mo_into_c (l : Launch) (cf : gm_C) (ad : Nat → Nat) {fl : Nat} {w : Nat} (hw : gm_isW w) {a1 : Int32} {a2 : Int32} {a3 : Int32} {S : gm_M} {r : Int32} {S'  : gm_M} (hf : Mo_into fl w a1 a2 a3 S = some (r, S')) : gm_Met l yX11_into cX11_into 6 (some .int) 2 48 cf ad gm_sM 17 [.ref (ad 0), .ref (ad w), .int a1, .int a2, .int a3] S (some (.int r)) S' := by
  refine gm_met (by decide +kernel) (Nat.le_of_ble_eq_true rfl) ?_
  intro p e s m args below meth c C hr
  have C : gm_F p s m args meth c cf ad 17 cX11_into 6 RX11 := C
  refine gm_lve (lv' := [(0, .ref (ad 0)), (1, .ref (ad w)), (2, .int a1), (3, .int a2), (4, .int a3)]) rfl ?_
  unfold Mo_into at hf
  refine gm_aload_n C dX11_into_0 rfl 0 rfl ?_
  refine gm_iload_n C dX11_into_1 rfl 3 rfl ?_
  refine gm_iload C dX11_into_2 4 rfl ?_
  obtain ⟨v1, S2, eS2, hf⟩ := gm_bp2_s hf
  refine gm_callVi (As := [.int a2, .int a3]) C (Mo_takeNumber_c l cf ad eS2) (Nat.le_of_ble_eq_true rfl) rfl kc_11 wy_Mo_takeNumber rfl wl_990 rfl ⟨(Nat.le_of_ble_eq_true rfl), (Nat.le_of_ble_eq_true rfl)⟩ rfl (Nat.le_of_ble_eq_true rfl) dX11_into_4 ?_
  refine gm_istore (lv' := [(5, .int v1), (0, .ref (ad 0)), (1, .ref (ad w)), (2, .int a1), (3, .int a2), (4, .int a3)]) C dX11_into_7 (by decide) rfl ?_
  refine gm_aload_n C dX11_into_9 rfl 2 rfl ?_
  refine gm_iload_n C dX11_into_10 rfl 3 rfl ?_
  refine gm_aload_n C dX11_into_11 rfl 1 rfl ?_
  refine gm_geti C (Nat.le_of_ble_eq_true rfl) rfl kc_11 (k := 12) rfl (by decide) rfl wl_852 dX11_into_12 ?_
  obtain ⟨h3, hf⟩ := gm_ck_s hf
  refine gm_iast C hw.1 hw.2 rfl h3 dX11_into_15 ?_
  obtain ⟨S4, eS4, hf⟩ := gm_lt_s hf
  refine gm_topm eS4 ?_
  refine gm_iload C dX11_into_16 0 rfl ?_
  exact gm_iret C hr rfl dX11_into_18 hf
theorem dX11_areOf_0 : decode cX11_areOf 0 = .ok (.iload_n 0, 1) := by decide +kernel
theorem dX11_areOf_1 : decode cX11_areOf 1 = .ok (.tableswitch 164 0 4 #[35, 57, 79, 109, 142], 35) := by decide +kernel
theorem dX11_areOf_36 : decode cX11_areOf 36 = .ok (.iload_n 1, 1) := by decide +kernel
theorem dX11_areOf_37 : decode cX11_areOf 37 = .ok (.i2l, 1) := by decide +kernel
theorem dX11_areOf_38 : decode cX11_areOf 38 = .ok (.lconst 0, 1) := by decide +kernel
theorem dX11_areOf_39 : decode cX11_areOf 39 = .ok (.ldc2_w 82, 3) := by decide +kernel
theorem dX11_areOf_42 : decode cX11_areOf 42 = .ok (.invokestatic 69, 3) := by decide +kernel
theorem dX11_areOf_45 : decode cX11_areOf 45 = .ok (.ifCond .eq 11, 3) := by decide +kernel
theorem dX11_areOf_48 : decode cX11_areOf 48 = .ok (.iload_n 2, 1) := by decide +kernel
theorem dX11_areOf_49 : decode cX11_areOf 49 = .ok (.ifCond .ne 7, 3) := by decide +kernel
theorem dX11_areOf_52 : decode cX11_areOf 52 = .ok (.iconst 1, 1) := by decide +kernel
theorem dX11_areOf_53 : decode cX11_areOf 53 = .ok (.goto 4, 3) := by decide +kernel
theorem dX11_areOf_56 : decode cX11_areOf 56 = .ok (.iconst 0, 1) := by decide +kernel
theorem dX11_areOf_57 : decode cX11_areOf 57 = .ok (.ireturn, 1) := by decide +kernel
theorem dX11_areOf_58 : decode cX11_areOf 58 = .ok (.iload_n 1, 1) := by decide +kernel
theorem dX11_areOf_59 : decode cX11_areOf 59 = .ok (.i2l, 1) := by decide +kernel
theorem dX11_areOf_60 : decode cX11_areOf 60 = .ok (.lconst 0, 1) := by decide +kernel
theorem dX11_areOf_61 : decode cX11_areOf 61 = .ok (.ldc2_w 84, 3) := by decide +kernel
theorem dX11_areOf_64 : decode cX11_areOf 64 = .ok (.invokestatic 69, 3) := by decide +kernel
theorem dX11_areOf_67 : decode cX11_areOf 67 = .ok (.ifCond .eq 11, 3) := by decide +kernel
theorem dX11_areOf_70 : decode cX11_areOf 70 = .ok (.iload_n 2, 1) := by decide +kernel
theorem dX11_areOf_71 : decode cX11_areOf 71 = .ok (.ifCond .ne 7, 3) := by decide +kernel
theorem dX11_areOf_74 : decode cX11_areOf 74 = .ok (.iconst 1, 1) := by decide +kernel
theorem dX11_areOf_75 : decode cX11_areOf 75 = .ok (.goto 4, 3) := by decide +kernel
theorem dX11_areOf_78 : decode cX11_areOf 78 = .ok (.iconst 0, 1) := by decide +kernel
theorem dX11_areOf_79 : decode cX11_areOf 79 = .ok (.ireturn, 1) := by decide +kernel
theorem dX11_areOf_80 : decode cX11_areOf 80 = .ok (.iload_n 1, 1) := by decide +kernel
theorem dX11_areOf_81 : decode cX11_areOf 81 = .ok (.i2l, 1) := by decide +kernel
theorem dX11_areOf_82 : decode cX11_areOf 82 = .ok (.lconst 0, 1) := by decide +kernel
theorem dX11_areOf_83 : decode cX11_areOf 83 = .ok (.ldc2_w 86, 3) := by decide +kernel
theorem dX11_areOf_86 : decode cX11_areOf 86 = .ok (.invokestatic 69, 3) := by decide +kernel
theorem dX11_areOf_89 : decode cX11_areOf 89 = .ok (.ifCond .eq 19, 3) := by decide +kernel
theorem dX11_areOf_92 : decode cX11_areOf 92 = .ok (.iload_n 2, 1) := by decide +kernel
theorem dX11_areOf_93 : decode cX11_areOf 93 = .ok (.i2l, 1) := by decide +kernel
theorem dX11_areOf_94 : decode cX11_areOf 94 = .ok (.lconst 0, 1) := by decide +kernel
theorem dX11_areOf_95 : decode cX11_areOf 95 = .ok (.ldc2_w 88, 3) := by decide +kernel
theorem dX11_areOf_98 : decode cX11_areOf 98 = .ok (.invokestatic 69, 3) := by decide +kernel
theorem dX11_areOf_101 : decode cX11_areOf 101 = .ok (.ifCond .eq 7, 3) := by decide +kernel
theorem dX11_areOf_104 : decode cX11_areOf 104 = .ok (.iconst 1, 1) := by decide +kernel
theorem dX11_areOf_105 : decode cX11_areOf 105 = .ok (.goto 4, 3) := by decide +kernel
theorem dX11_areOf_108 : decode cX11_areOf 108 = .ok (.iconst 0, 1) := by decide +kernel
theorem dX11_areOf_109 : decode cX11_areOf 109 = .ok (.ireturn, 1) := by decide +kernel
theorem dX11_areOf_110 : decode cX11_areOf 110 = .ok (.iload_n 1, 1) := by decide +kernel
theorem dX11_areOf_111 : decode cX11_areOf 111 = .ok (.i2l, 1) := by decide +kernel
theorem dX11_areOf_112 : decode cX11_areOf 112 = .ok (.ldc2_w 84, 3) := by decide +kernel
theorem dX11_areOf_115 : decode cX11_areOf 115 = .ok (.ldc2_w 90, 3) := by decide +kernel
theorem dX11_areOf_118 : decode cX11_areOf 118 = .ok (.invokestatic 69, 3) := by decide +kernel
theorem dX11_areOf_121 : decode cX11_areOf 121 = .ok (.ifCond .eq 20, 3) := by decide +kernel
theorem dX11_areOf_124 : decode cX11_areOf 124 = .ok (.iload_n 2, 1) := by decide +kernel
theorem dX11_areOf_125 : decode cX11_areOf 125 = .ok (.i2l, 1) := by decide +kernel
theorem dX11_areOf_126 : decode cX11_areOf 126 = .ok (.lconst 0, 1) := by decide +kernel
theorem dX11_areOf_127 : decode cX11_areOf 127 = .ok (.iload_n 1, 1) := by decide +kernel
theorem dX11_areOf_128 : decode cX11_areOf 128 = .ok (.iconst 1, 1) := by decide +kernel
theorem dX11_areOf_129 : decode cX11_areOf 129 = .ok (.isub, 1) := by decide +kernel
theorem dX11_areOf_130 : decode cX11_areOf 130 = .ok (.i2l, 1) := by decide +kernel
theorem dX11_areOf_131 : decode cX11_areOf 131 = .ok (.invokestatic 69, 3) := by decide +kernel
theorem dX11_areOf_134 : decode cX11_areOf 134 = .ok (.ifCond .eq 7, 3) := by decide +kernel
theorem dX11_areOf_137 : decode cX11_areOf 137 = .ok (.iconst 1, 1) := by decide +kernel
theorem dX11_areOf_138 : decode cX11_areOf 138 = .ok (.goto 4, 3) := by decide +kernel
theorem dX11_areOf_141 : decode cX11_areOf 141 = .ok (.iconst 0, 1) := by decide +kernel
theorem dX11_areOf_142 : decode cX11_areOf 142 = .ok (.ireturn, 1) := by decide +kernel
theorem dX11_areOf_143 : decode cX11_areOf 143 = .ok (.iload_n 1, 1) := by decide +kernel
theorem dX11_areOf_144 : decode cX11_areOf 144 = .ok (.i2l, 1) := by decide +kernel
theorem dX11_areOf_145 : decode cX11_areOf 145 = .ok (.lconst 0, 1) := by decide +kernel
theorem dX11_areOf_146 : decode cX11_areOf 146 = .ok (.ldc2_w 92, 3) := by decide +kernel
theorem dX11_areOf_149 : decode cX11_areOf 149 = .ok (.invokestatic 69, 3) := by decide +kernel
theorem dX11_areOf_152 : decode cX11_areOf 152 = .ok (.ifCond .eq 11, 3) := by decide +kernel
theorem dX11_areOf_155 : decode cX11_areOf 155 = .ok (.iload_n 2, 1) := by decide +kernel
theorem dX11_areOf_156 : decode cX11_areOf 156 = .ok (.ifCond .ne 7, 3) := by decide +kernel
theorem dX11_areOf_159 : decode cX11_areOf 159 = .ok (.iconst 1, 1) := by decide +kernel
theorem dX11_areOf_160 : decode cX11_areOf 160 = .ok (.goto 4, 3) := by decide +kernel
theorem dX11_areOf_163 : decode cX11_areOf 163 = .ok (.iconst 0, 1) := by decide +kernel
theorem dX11_areOf_164 : decode cX11_areOf 164 = .ok (.ireturn, 1) := by decide +kernel
theorem dX11_areOf_165 : decode cX11_areOf 165 = .ok (.iconst 0, 1) := by decide +kernel
theorem dX11_areOf_166 : decode cX11_areOf 166 = .ok (.ireturn, 1) := by decide +kernel
def Mo_areOf (a0 : Int32) (a1 : Int32) (a2 : Int32) : Option Int32 :=
  if a0 = 0 then (
    gm_bp1 (Mo_in ((a1 : Int32).toInt64) 0 36) fun v2 =>
    if v2 = 0 then (
      some (0)
    ) else (
      if a2 = 0 then (
        some (1)
      ) else (
        some (0)
      )
    )
  ) else (
  if a0 = 1 then (
    gm_bp1 (Mo_in ((a1 : Int32).toInt64) 0 2) fun v6 =>
    if v6 = 0 then (
      some (0)
    ) else (
      if a2 = 0 then (
        some (1)
      ) else (
        some (0)
      )
    )
  ) else (
  if a0 = 2 then (
    gm_bp1 (Mo_in ((a1 : Int32).toInt64) 0 9) fun v10 =>
    if v10 = 0 then (
      some (0)
    ) else (
      gm_bp1 (Mo_in ((a2 : Int32).toInt64) 0 4) fun v12 =>
      if v12 = 0 then (
        some (0)
      ) else (
        some (1)
      )
    )
  ) else (
  if a0 = 3 then (
    gm_bp1 (Mo_in ((a1 : Int32).toInt64) 2 12) fun v15 =>
    if v15 = 0 then (
      some (0)
    ) else (
      gm_bp1 (Mo_in ((a2 : Int32).toInt64) 0 ((a1 - 1 : Int32).toInt64)) fun v17 =>
      if v17 = 0 then (
        some (0)
      ) else (
        some (1)
      )
    )
  ) else (
  if a0 = 4 then (
    gm_bp1 (Mo_in ((a1 : Int32).toInt64) 0 3) fun v20 =>
    if v20 = 0 then (
      some (0)
    ) else (
      if a2 = 0 then (
        some (1)
      ) else (
        some (0)
      )
    )
  ) else (
    some (0)
  )))))
set_option maxHeartbeats 4000000 in
set_option maxRecDepth 100000 in
theorem Mo_areOf_c (l : Launch) (cf : gm_C) (ad : Nat → Nat)    {a0 : Int32} {a1 : Int32} {a2 : Int32} {S : gm_M} {r : Int32}  (hf : Mo_areOf a0 a1 a2 = some r) : gm_Met l yX11_areOf cX11_areOf 3 (some .boolean) 1 25 cf ad gm_sM 17 [.int a0, .int a1, .int a2] S (some (.int r)) S := by
  refine gm_met (by decide +kernel) (Nat.le_of_ble_eq_true rfl) ?_
  intro p e s m args below meth c C hr
  have C : gm_F p s m args meth c cf ad 17 cX11_areOf 3 RX11 := C
  refine gm_lve (lv' := [(0, .int a0), (1, .int a1), (2, .int a2)]) rfl ?_
  unfold Mo_areOf at hf
  refine gm_iload_n C dX11_areOf_0 rfl 0 rfl ?_
  by_cases c1 : a0 = 0
  · have hf := gm_it _ c1 hf
    refine gm_tableIn C 36 dX11_areOf_1 (by rw [c1]; decide) (by rw [c1]; decide) (by rw [c1]; rfl) (by decide) ?_
    refine gm_iload_n C dX11_areOf_36 rfl 1 rfl ?_
    refine gm_i2l C dX11_areOf_37 rfl ?_
    refine gm_lconst (v := 0) C dX11_areOf_38 (by decide) ?_
    refine gm_ldc2 (v := 36) C wl_1012 dX11_areOf_39 ?_
    obtain ⟨v2, ev2, hf⟩ := gm_bp1_s hf
    refine gm_callSi (As := [.long ((a1 : Int32).toInt64), .long 0, .long 36]) C (Mo_in_c l cf ad ev2 (S := S)) wy_Mo_in wl_957 rfl ⟨(Nat.le_of_ble_eq_true rfl), (Nat.le_of_ble_eq_true rfl)⟩ rfl (Nat.le_of_ble_eq_true rfl) dX11_areOf_42 ?_
    refine gm_if_eq C 56 dX11_areOf_45 (by decide) (fun c3 => ?_) (fun c3 => ?_)
    · have hf := gm_it _ c3 hf
      refine gm_iconst (v := 0) C dX11_areOf_56 (by decide) ?_
      exact gm_iretK C hr rfl dX11_areOf_57 hf
    · have hf := gm_if _ c3 hf
      refine gm_iload_n C dX11_areOf_48 rfl 2 rfl ?_
      refine gm_if_ne C 56 dX11_areOf_49 (by decide) (fun c4 => ?_) (fun c4 => ?_)
      · have hf := gm_if _ c4 hf
        refine gm_iconst (v := 0) C dX11_areOf_56 (by decide) ?_
        exact gm_iretK C hr rfl dX11_areOf_57 hf
      · have hf := gm_it _ c4 hf
        refine gm_iconst (v := 1) C dX11_areOf_52 (by decide) ?_
        refine gm_goto C 57 dX11_areOf_53 (by decide) ?_
        exact gm_iretK C hr rfl dX11_areOf_57 hf
  · have hf := gm_if _ c1 hf
    by_cases c5 : a0 = 1
    · have hf := gm_it _ c5 hf
      refine gm_tableIn C 58 dX11_areOf_1 (by rw [c5]; decide) (by rw [c5]; decide) (by rw [c5]; rfl) (by decide) ?_
      refine gm_iload_n C dX11_areOf_58 rfl 1 rfl ?_
      refine gm_i2l C dX11_areOf_59 rfl ?_
      refine gm_lconst (v := 0) C dX11_areOf_60 (by decide) ?_
      refine gm_ldc2 (v := 2) C wl_1013 dX11_areOf_61 ?_
      obtain ⟨v6, ev6, hf⟩ := gm_bp1_s hf
      refine gm_callSi (As := [.long ((a1 : Int32).toInt64), .long 0, .long 2]) C (Mo_in_c l cf ad ev6 (S := S)) wy_Mo_in wl_957 rfl ⟨(Nat.le_of_ble_eq_true rfl), (Nat.le_of_ble_eq_true rfl)⟩ rfl (Nat.le_of_ble_eq_true rfl) dX11_areOf_64 ?_
      refine gm_if_eq C 78 dX11_areOf_67 (by decide) (fun c7 => ?_) (fun c7 => ?_)
      · have hf := gm_it _ c7 hf
        refine gm_iconst (v := 0) C dX11_areOf_78 (by decide) ?_
        exact gm_iretK C hr rfl dX11_areOf_79 hf
      · have hf := gm_if _ c7 hf
        refine gm_iload_n C dX11_areOf_70 rfl 2 rfl ?_
        refine gm_if_ne C 78 dX11_areOf_71 (by decide) (fun c8 => ?_) (fun c8 => ?_)
        · have hf := gm_if _ c8 hf
          refine gm_iconst (v := 0) C dX11_areOf_78 (by decide) ?_
          exact gm_iretK C hr rfl dX11_areOf_79 hf
        · have hf := gm_it _ c8 hf
          refine gm_iconst (v := 1) C dX11_areOf_74 (by decide) ?_
          refine gm_goto C 79 dX11_areOf_75 (by decide) ?_
          exact gm_iretK C hr rfl dX11_areOf_79 hf
    · have hf := gm_if _ c5 hf
      by_cases c9 : a0 = 2
      · have hf := gm_it _ c9 hf
        refine gm_tableIn C 80 dX11_areOf_1 (by rw [c9]; decide) (by rw [c9]; decide) (by rw [c9]; rfl) (by decide) ?_
        refine gm_iload_n C dX11_areOf_80 rfl 1 rfl ?_
        refine gm_i2l C dX11_areOf_81 rfl ?_
        refine gm_lconst (v := 0) C dX11_areOf_82 (by decide) ?_
        refine gm_ldc2 (v := 9) C wl_1014 dX11_areOf_83 ?_
        obtain ⟨v10, ev10, hf⟩ := gm_bp1_s hf
        refine gm_callSi (As := [.long ((a1 : Int32).toInt64), .long 0, .long 9]) C (Mo_in_c l cf ad ev10 (S := S)) wy_Mo_in wl_957 rfl ⟨(Nat.le_of_ble_eq_true rfl), (Nat.le_of_ble_eq_true rfl)⟩ rfl (Nat.le_of_ble_eq_true rfl) dX11_areOf_86 ?_
        refine gm_if_eq C 108 dX11_areOf_89 (by decide) (fun c11 => ?_) (fun c11 => ?_)
        · have hf := gm_it _ c11 hf
          refine gm_iconst (v := 0) C dX11_areOf_108 (by decide) ?_
          exact gm_iretK C hr rfl dX11_areOf_109 hf
        · have hf := gm_if _ c11 hf
          refine gm_iload_n C dX11_areOf_92 rfl 2 rfl ?_
          refine gm_i2l C dX11_areOf_93 rfl ?_
          refine gm_lconst (v := 0) C dX11_areOf_94 (by decide) ?_
          refine gm_ldc2 (v := 4) C wl_1015 dX11_areOf_95 ?_
          obtain ⟨v12, ev12, hf⟩ := gm_bp1_s hf
          refine gm_callSi (As := [.long ((a2 : Int32).toInt64), .long 0, .long 4]) C (Mo_in_c l cf ad ev12 (S := S)) wy_Mo_in wl_957 rfl ⟨(Nat.le_of_ble_eq_true rfl), (Nat.le_of_ble_eq_true rfl)⟩ rfl (Nat.le_of_ble_eq_true rfl) dX11_areOf_98 ?_
          refine gm_if_eq C 108 dX11_areOf_101 (by decide) (fun c13 => ?_) (fun c13 => ?_)
          · have hf := gm_it _ c13 hf
            refine gm_iconst (v := 0) C dX11_areOf_108 (by decide) ?_
            exact gm_iretK C hr rfl dX11_areOf_109 hf
          · have hf := gm_if _ c13 hf
            refine gm_iconst (v := 1) C dX11_areOf_104 (by decide) ?_
            refine gm_goto C 109 dX11_areOf_105 (by decide) ?_
            exact gm_iretK C hr rfl dX11_areOf_109 hf
      · have hf := gm_if _ c9 hf
        by_cases c14 : a0 = 3
        · have hf := gm_it _ c14 hf
          refine gm_tableIn C 110 dX11_areOf_1 (by rw [c14]; decide) (by rw [c14]; decide) (by rw [c14]; rfl) (by decide) ?_
          refine gm_iload_n C dX11_areOf_110 rfl 1 rfl ?_
          refine gm_i2l C dX11_areOf_111 rfl ?_
          refine gm_ldc2 (v := 2) C wl_1013 dX11_areOf_112 ?_
          refine gm_ldc2 (v := 12) C wl_1016 dX11_areOf_115 ?_
          obtain ⟨v15, ev15, hf⟩ := gm_bp1_s hf
          refine gm_callSi (As := [.long ((a1 : Int32).toInt64), .long 2, .long 12]) C (Mo_in_c l cf ad ev15 (S := S)) wy_Mo_in wl_957 rfl ⟨(Nat.le_of_ble_eq_true rfl), (Nat.le_of_ble_eq_true rfl)⟩ rfl (Nat.le_of_ble_eq_true rfl) dX11_areOf_118 ?_
          refine gm_if_eq C 141 dX11_areOf_121 (by decide) (fun c16 => ?_) (fun c16 => ?_)
          · have hf := gm_it _ c16 hf
            refine gm_iconst (v := 0) C dX11_areOf_141 (by decide) ?_
            exact gm_iretK C hr rfl dX11_areOf_142 hf
          · have hf := gm_if _ c16 hf
            refine gm_iload_n C dX11_areOf_124 rfl 2 rfl ?_
            refine gm_i2l C dX11_areOf_125 rfl ?_
            refine gm_lconst (v := 0) C dX11_areOf_126 (by decide) ?_
            refine gm_iload_n C dX11_areOf_127 rfl 1 rfl ?_
            refine gm_iconst (v := 1) C dX11_areOf_128 (by decide) ?_
            refine gm_isub C dX11_areOf_129 ?_
            refine gm_i2l C dX11_areOf_130 rfl ?_
            obtain ⟨v17, ev17, hf⟩ := gm_bp1_s hf
            refine gm_callSi (As := [.long ((a2 : Int32).toInt64), .long 0, .long ((a1 - 1 : Int32).toInt64)]) C (Mo_in_c l cf ad ev17 (S := S)) wy_Mo_in wl_957 rfl ⟨(Nat.le_of_ble_eq_true rfl), (Nat.le_of_ble_eq_true rfl)⟩ rfl (Nat.le_of_ble_eq_true rfl) dX11_areOf_131 ?_
            refine gm_if_eq C 141 dX11_areOf_134 (by decide) (fun c18 => ?_) (fun c18 => ?_)
            · have hf := gm_it _ c18 hf
              refine gm_iconst (v := 0) C dX11_areOf_141 (by decide) ?_
              exact gm_iretK C hr rfl dX11_areOf_142 hf
            · have hf := gm_if _ c18 hf
              refine gm_iconst (v := 1) C dX11_areOf_137 (by decide) ?_
              refine gm_goto C 142 dX11_areOf_138 (by decide) ?_
              exact gm_iretK C hr rfl dX11_areOf_142 hf
        · have hf := gm_if _ c14 hf
          by_cases c19 : a0 = 4
          · have hf := gm_it _ c19 hf
            refine gm_tableIn C 143 dX11_areOf_1 (by rw [c19]; decide) (by rw [c19]; decide) (by rw [c19]; rfl) (by decide) ?_
            refine gm_iload_n C dX11_areOf_143 rfl 1 rfl ?_
            refine gm_i2l C dX11_areOf_144 rfl ?_
            refine gm_lconst (v := 0) C dX11_areOf_145 (by decide) ?_
            refine gm_ldc2 (v := 3) C wl_1017 dX11_areOf_146 ?_
            obtain ⟨v20, ev20, hf⟩ := gm_bp1_s hf
            refine gm_callSi (As := [.long ((a1 : Int32).toInt64), .long 0, .long 3]) C (Mo_in_c l cf ad ev20 (S := S)) wy_Mo_in wl_957 rfl ⟨(Nat.le_of_ble_eq_true rfl), (Nat.le_of_ble_eq_true rfl)⟩ rfl (Nat.le_of_ble_eq_true rfl) dX11_areOf_149 ?_
            refine gm_if_eq C 163 dX11_areOf_152 (by decide) (fun c21 => ?_) (fun c21 => ?_)
            · have hf := gm_it _ c21 hf
              refine gm_iconst (v := 0) C dX11_areOf_163 (by decide) ?_
              exact gm_iretK C hr rfl dX11_areOf_164 hf
            · have hf := gm_if _ c21 hf
              refine gm_iload_n C dX11_areOf_155 rfl 2 rfl ?_
              refine gm_if_ne C 163 dX11_areOf_156 (by decide) (fun c22 => ?_) (fun c22 => ?_)
              · have hf := gm_if _ c22 hf
                refine gm_iconst (v := 0) C dX11_areOf_163 (by decide) ?_
                exact gm_iretK C hr rfl dX11_areOf_164 hf
              · have hf := gm_it _ c22 hf
                refine gm_iconst (v := 1) C dX11_areOf_159 (by decide) ?_
                refine gm_goto C 164 dX11_areOf_160 (by decide) ?_
                exact gm_iretK C hr rfl dX11_areOf_164 hf
          · have hf := gm_if _ c19 hf
            have nc1 : (a0).toInt ≠ 0 := gm_nt c1
            have nc5 : (a0).toInt ≠ 1 := gm_nt c5
            have nc9 : (a0).toInt ≠ 2 := gm_nt c9
            have nc14 : (a0).toInt ≠ 3 := gm_nt c14
            have nc19 : (a0).toInt ≠ 4 := gm_nt c19
            refine gm_tableOut C 165 dX11_areOf_1 (by omega) (by decide) ?_
            refine gm_iconst (v := 0) C dX11_areOf_165 (by decide) ?_
            exact gm_iretK C hr rfl dX11_areOf_166 hf
theorem dX11_takeRule_0 : decode cX11_takeRule 0 = .ok (.aload_n 0, 1) := by decide +kernel
theorem dX11_takeRule_1 : decode cX11_takeRule 1 = .ok (.getfield 139, 3) := by decide +kernel
theorem dX11_takeRule_4 : decode cX11_takeRule 4 = .ok (.istore_n 1, 1) := by decide +kernel
theorem dX11_takeRule_5 : decode cX11_takeRule 5 = .ok (.aload_n 0, 1) := by decide +kernel
theorem dX11_takeRule_6 : decode cX11_takeRule 6 = .ok (.dup, 1) := by decide +kernel
theorem dX11_takeRule_7 : decode cX11_takeRule 7 = .ok (.getfield 139, 3) := by decide +kernel
theorem dX11_takeRule_10 : decode cX11_takeRule 10 = .ok (.iconst 1, 1) := by decide +kernel
theorem dX11_takeRule_11 : decode cX11_takeRule 11 = .ok (.iadd, 1) := by decide +kernel
theorem dX11_takeRule_12 : decode cX11_takeRule 12 = .ok (.putfield 139, 3) := by decide +kernel
theorem dX11_takeRule_15 : decode cX11_takeRule 15 = .ok (.aload_n 0, 1) := by decide +kernel
theorem dX11_takeRule_16 : decode cX11_takeRule 16 = .ok (.aload_n 0, 1) := by decide +kernel
theorem dX11_takeRule_17 : decode cX11_takeRule 17 = .ok (.getfield 23, 3) := by decide +kernel
theorem dX11_takeRule_20 : decode cX11_takeRule 20 = .ok (.iload_n 1, 1) := by decide +kernel
theorem dX11_takeRule_21 : decode cX11_takeRule 21 = .ok (.iconst 0, 1) := by decide +kernel
theorem dX11_takeRule_22 : decode cX11_takeRule 22 = .ok (.iconst 4, 1) := by decide +kernel
theorem dX11_takeRule_23 : decode cX11_takeRule 23 = .ok (.invokevirtual 142, 3) := by decide +kernel
theorem dX11_takeRule_26 : decode cX11_takeRule 26 = .ok (.istore_n 2, 1) := by decide +kernel
theorem dX11_takeRule_27 : decode cX11_takeRule 27 = .ok (.iload_n 2, 1) := by decide +kernel
theorem dX11_takeRule_28 : decode cX11_takeRule 28 = .ok (.ifCond .le 7, 3) := by decide +kernel
theorem dX11_takeRule_31 : decode cX11_takeRule 31 = .ok (.iload_n 2, 1) := by decide +kernel
theorem dX11_takeRule_32 : decode cX11_takeRule 32 = .ok (.goto 15, 3) := by decide +kernel
theorem dX11_takeRule_35 : decode cX11_takeRule 35 = .ok (.aload_n 0, 1) := by decide +kernel
theorem dX11_takeRule_36 : decode cX11_takeRule 36 = .ok (.aload_n 0, 1) := by decide +kernel
theorem dX11_takeRule_37 : decode cX11_takeRule 37 = .ok (.getfield 26, 3) := by decide +kernel
theorem dX11_takeRule_40 : decode cX11_takeRule 40 = .ok (.iload_n 1, 1) := by decide +kernel
theorem dX11_takeRule_41 : decode cX11_takeRule 41 = .ok (.iconst 0, 1) := by decide +kernel
theorem dX11_takeRule_42 : decode cX11_takeRule 42 = .ok (.bipush 99, 2) := by decide +kernel
theorem dX11_takeRule_44 : decode cX11_takeRule 44 = .ok (.invokevirtual 142, 3) := by decide +kernel
theorem dX11_takeRule_47 : decode cX11_takeRule 47 = .ok (.istore_n 2, 1) := by decide +kernel
theorem dX11_takeRule_48 : decode cX11_takeRule 48 = .ok (.aload_n 0, 1) := by decide +kernel
theorem dX11_takeRule_49 : decode cX11_takeRule 49 = .ok (.getfield 116, 3) := by decide +kernel
theorem dX11_takeRule_52 : decode cX11_takeRule 52 = .ok (.istore_n 3, 1) := by decide +kernel
theorem dX11_takeRule_53 : decode cX11_takeRule 53 = .ok (.iload_n 2, 1) := by decide +kernel
theorem dX11_takeRule_54 : decode cX11_takeRule 54 = .ok (.ifCond .le 7, 3) := by decide +kernel
theorem dX11_takeRule_57 : decode cX11_takeRule 57 = .ok (.iload_n 2, 1) := by decide +kernel
theorem dX11_takeRule_58 : decode cX11_takeRule 58 = .ok (.goto 15, 3) := by decide +kernel
theorem dX11_takeRule_61 : decode cX11_takeRule 61 = .ok (.aload_n 0, 1) := by decide +kernel
theorem dX11_takeRule_62 : decode cX11_takeRule 62 = .ok (.aload_n 0, 1) := by decide +kernel
theorem dX11_takeRule_63 : decode cX11_takeRule 63 = .ok (.getfield 29, 3) := by decide +kernel
theorem dX11_takeRule_66 : decode cX11_takeRule 66 = .ok (.iload_n 1, 1) := by decide +kernel
theorem dX11_takeRule_67 : decode cX11_takeRule 67 = .ok (.iconst 0, 1) := by decide +kernel
theorem dX11_takeRule_68 : decode cX11_takeRule 68 = .ok (.bipush 99, 2) := by decide +kernel
theorem dX11_takeRule_70 : decode cX11_takeRule 70 = .ok (.invokevirtual 142, 3) := by decide +kernel
theorem dX11_takeRule_73 : decode cX11_takeRule 73 = .ok (.istore_n 2, 1) := by decide +kernel
theorem dX11_takeRule_74 : decode cX11_takeRule 74 = .ok (.iload_n 2, 1) := by decide +kernel
theorem dX11_takeRule_75 : decode cX11_takeRule 75 = .ok (.ifCond .ne 34, 3) := by decide +kernel
theorem dX11_takeRule_78 : decode cX11_takeRule 78 = .ok (.aload_n 0, 1) := by decide +kernel
theorem dX11_takeRule_79 : decode cX11_takeRule 79 = .ok (.getfield 23, 3) := by decide +kernel
theorem dX11_takeRule_82 : decode cX11_takeRule 82 = .ok (.iload_n 1, 1) := by decide +kernel
theorem dX11_takeRule_83 : decode cX11_takeRule 83 = .ok (.iaload, 1) := by decide +kernel
theorem dX11_takeRule_84 : decode cX11_takeRule 84 = .ok (.aload_n 0, 1) := by decide +kernel
theorem dX11_takeRule_85 : decode cX11_takeRule 85 = .ok (.getfield 26, 3) := by decide +kernel
theorem dX11_takeRule_88 : decode cX11_takeRule 88 = .ok (.iload_n 1, 1) := by decide +kernel
theorem dX11_takeRule_89 : decode cX11_takeRule 89 = .ok (.iaload, 1) := by decide +kernel
theorem dX11_takeRule_90 : decode cX11_takeRule 90 = .ok (.aload_n 0, 1) := by decide +kernel
theorem dX11_takeRule_91 : decode cX11_takeRule 91 = .ok (.getfield 29, 3) := by decide +kernel
theorem dX11_takeRule_94 : decode cX11_takeRule 94 = .ok (.iload_n 1, 1) := by decide +kernel
theorem dX11_takeRule_95 : decode cX11_takeRule 95 = .ok (.iaload, 1) := by decide +kernel
theorem dX11_takeRule_96 : decode cX11_takeRule 96 = .ok (.invokestatic 146, 3) := by decide +kernel
theorem dX11_takeRule_99 : decode cX11_takeRule 99 = .ok (.ifCond .ne 10, 3) := by decide +kernel
theorem dX11_takeRule_102 : decode cX11_takeRule 102 = .ok (.aload_n 0, 1) := by decide +kernel
theorem dX11_takeRule_103 : decode cX11_takeRule 103 = .ok (.iconst 4, 1) := by decide +kernel
theorem dX11_takeRule_104 : decode cX11_takeRule 104 = .ok (.iload_n 3, 1) := by decide +kernel
theorem dX11_takeRule_105 : decode cX11_takeRule 105 = .ok (.invokevirtual 112, 3) := by decide +kernel
theorem dX11_takeRule_108 : decode cX11_takeRule 108 = .ok (.ireturn, 1) := by decide +kernel
theorem dX11_takeRule_109 : decode cX11_takeRule 109 = .ok (.iload_n 2, 1) := by decide +kernel
theorem dX11_takeRule_110 : decode cX11_takeRule 110 = .ok (.ireturn, 1) := by decide +kernel
def Mo_takeRule (fl : Nat) (S : gm_M) : Option (Int32 × gm_M) :=
  gm_lt (α := Int32) (S.1 0 18) fun x1 =>
  gm_lt (α := gm_M) (gm_ui S 0 18 ((S.1 0 18) + 1)) fun S2 =>
  gm_bp2 (Mo_into fl 4 x1 0 4 S2) fun v3 S4 =>
  gm_bp2 (show Option (Int32 × gm_M) from
    if v3 ≤ 0 then (
      gm_bp2 (Mo_into fl 5 x1 0 99 S4) fun v22 S23 =>
      some (v22, S23)
    ) else (
      some (v3, S4)
    )
  ) fun x5 S6 =>
  gm_lt (α := Int32) (S6.1 0 13) fun x7 =>
  gm_bp2 (show Option (Int32 × gm_M) from
    if x5 ≤ 0 then (
      gm_bp2 (Mo_into fl 6 x1 0 99 S6) fun v19 S20 =>
      some (v19, S20)
    ) else (
      some (x5, S6)
    )
  ) fun x8 S9 =>
  if x8 = 0 then (
    gm_ck (x1) 4 <|
    gm_ck (x1) 4 <|
    gm_ck (x1) 4 <|
    gm_bp1 (Mo_areOf (S9.1 4 x1.toNatClampNeg) (S9.1 5 x1.toNatClampNeg) (S9.1 6 x1.toNatClampNeg)) fun v14 =>
    if v14 = 0 then (
      gm_bp2 (Mo_fails 4 x7 S9) fun v16 S17 =>
      some (v16, S17)
    ) else (
      some (x8, S9)
    )
  ) else (
    some (x8, S9)
  )
set_option maxHeartbeats 4000000 in
set_option maxRecDepth 100000 in
theorem Mo_takeRule_c (l : Launch) (cf : gm_C) (ad : Nat → Nat) {fl : Nat}    {S : gm_M} {r : Int32} {S'  : gm_M} (hf : Mo_takeRule fl S = some (r, S')) : gm_Met l yX11_takeRule cX11_takeRule 4 (some .int) 3 73 cf ad gm_sM 17 [.ref (ad 0)] S (some (.int r)) S' := by
  refine gm_met (by decide +kernel) (Nat.le_of_ble_eq_true rfl) ?_
  intro p e s m args below meth c C hr
  have C : gm_F p s m args meth c cf ad 17 cX11_takeRule 4 RX11 := C
  refine gm_lve (lv' := [(0, .ref (ad 0))]) rfl ?_
  unfold Mo_takeRule at hf
  refine gm_aload_n C dX11_takeRule_0 rfl 0 rfl ?_
  refine gm_geti C (Nat.le_of_ble_eq_true rfl) rfl kc_11 (k := 18) rfl (by decide) rfl wl_858 dX11_takeRule_1 ?_
  obtain ⟨x1, ex1, hf⟩ := gm_lt_s hf
  refine gm_topi ex1 ?_
  refine gm_istore_n (lv' := [(1, .int x1), (0, .ref (ad 0))]) C dX11_takeRule_4 rfl (by decide) rfl ?_
  refine gm_aload_n C dX11_takeRule_5 rfl 1 rfl ?_
  refine gm_dup C dX11_takeRule_6 rfl ?_
  refine gm_geti C (Nat.le_of_ble_eq_true rfl) rfl kc_11 (k := 18) rfl (by decide) rfl wl_858 dX11_takeRule_7 ?_
  refine gm_iconst (v := 1) C dX11_takeRule_10 (by decide) ?_
  refine gm_iadd C dX11_takeRule_11 ?_
  refine gm_puti C (Nat.le_of_ble_eq_true rfl) rfl kc_11 (k := 18) rfl (by decide) rfl rfl (kc_11.2.2.2.1 18 (by decide)) rfl rfl wl_858 dX11_takeRule_12 ?_
  obtain ⟨S2, eS2, hf⟩ := gm_lt_s hf
  refine gm_topm eS2 ?_
  refine gm_aload_n C dX11_takeRule_15 rfl 1 rfl ?_
  refine gm_aload_n C dX11_takeRule_16 rfl 1 rfl ?_
  refine gm_getr (j := 4) (u := 4) C (Nat.le_of_ble_eq_true rfl) rfl kc_11 (k := 19) rfl (by decide) rfl rfl wl_859 dX11_takeRule_17 ?_
  refine gm_iload_n C dX11_takeRule_20 rfl 0 rfl ?_
  refine gm_iconst (v := 0) C dX11_takeRule_21 (by decide) ?_
  refine gm_iconst (v := 4) C dX11_takeRule_22 (by decide) ?_
  obtain ⟨v3, S4, eS4, hf⟩ := gm_bp2_s hf
  refine gm_callVi (As := [.ref (ad 4), .int x1, .int 0, .int 4]) C (Mo_into_c l cf ad gm_w_4 eS4) (Nat.le_of_ble_eq_true rfl) rfl kc_11 wy_Mo_into rfl wl_1005 rfl ⟨(Nat.le_of_ble_eq_true rfl), (Nat.le_of_ble_eq_true rfl)⟩ rfl (Nat.le_of_ble_eq_true rfl) dX11_takeRule_23 ?_
  refine gm_istore_n (lv' := [(2, .int v3), (1, .int x1), (0, .ref (ad 0))]) C dX11_takeRule_26 rfl (by decide) rfl ?_
  refine gm_iload_n C dX11_takeRule_27 rfl 0 rfl ?_
  obtain ⟨x5, S6, hx, hf⟩ := gm_bp2_s hf
  have key : gm_G p l e { frames := 3, cells := 0, slots := 0, locals := 73 } s m args below meth c (MQ below (gm_Q cf ad gm_sM 17 (some (.int r)) S') args s 0 0 (gm_A ad 17)) cf ad gm_sM 17 4 S6 47 [(0, .ref (ad 0)), (1, .int x1)] [.int x5] := by
    refine gm_istore_n (lv' := [(2, .int x5), (0, .ref (ad 0)), (1, .int x1)]) C dX11_takeRule_47 rfl (by decide) rfl ?_
    refine gm_aload_n C dX11_takeRule_48 rfl 1 rfl ?_
    refine gm_geti C (Nat.le_of_ble_eq_true rfl) rfl kc_11 (k := 13) rfl (by decide) rfl wl_853 dX11_takeRule_49 ?_
    obtain ⟨x7, ex7, hf⟩ := gm_lt_s hf
    refine gm_topi ex7 ?_
    refine gm_istore_n (lv' := [(3, .int x7), (2, .int x5), (0, .ref (ad 0)), (1, .int x1)]) C dX11_takeRule_52 rfl (by decide) rfl ?_
    refine gm_iload_n C dX11_takeRule_53 rfl 1 rfl ?_
    obtain ⟨x8, S9, hx, hf⟩ := gm_bp2_s hf
    have key : gm_G p l e { frames := 3, cells := 0, slots := 0, locals := 73 } s m args below meth c (MQ below (gm_Q cf ad gm_sM 17 (some (.int r)) S') args s 0 0 (gm_A ad 17)) cf ad gm_sM 17 4 S9 73 [(0, .ref (ad 0)), (1, .int x1), (3, .int x7)] [.int x8] := by
      refine gm_istore_n (lv' := [(2, .int x8), (0, .ref (ad 0)), (1, .int x1), (3, .int x7)]) C dX11_takeRule_73 rfl (by decide) rfl ?_
      refine gm_iload_n C dX11_takeRule_74 rfl 0 rfl ?_
      refine gm_if_ne C 109 dX11_takeRule_75 (by decide) (fun c10 => ?_) (fun c10 => ?_)
      · have hf := gm_if _ c10 hf
        refine gm_iload_n C dX11_takeRule_109 rfl 0 rfl ?_
        exact gm_iret C hr rfl dX11_takeRule_110 hf
      · have hf := gm_it _ c10 hf
        refine gm_aload_n C dX11_takeRule_78 rfl 1 rfl ?_
        refine gm_getr (j := 4) (u := 4) C (Nat.le_of_ble_eq_true rfl) rfl kc_11 (k := 19) rfl (by decide) rfl rfl wl_859 dX11_takeRule_79 ?_
        refine gm_iload_n C dX11_takeRule_82 rfl 2 rfl ?_
        obtain ⟨h11, hf⟩ := gm_ck_s hf
        refine gm_iald C (Nat.le_of_ble_eq_true rfl) rfl rfl h11 dX11_takeRule_83 ?_
        refine gm_aload_n C dX11_takeRule_84 rfl 1 rfl ?_
        refine gm_getr (j := 5) (u := 5) C (Nat.le_of_ble_eq_true rfl) rfl kc_11 (k := 20) rfl (by decide) rfl rfl wl_860 dX11_takeRule_85 ?_
        refine gm_iload_n C dX11_takeRule_88 rfl 2 rfl ?_
        obtain ⟨h12, hf⟩ := gm_ck_s hf
        refine gm_iald C (Nat.le_of_ble_eq_true rfl) rfl rfl h12 dX11_takeRule_89 ?_
        refine gm_aload_n C dX11_takeRule_90 rfl 1 rfl ?_
        refine gm_getr (j := 6) (u := 6) C (Nat.le_of_ble_eq_true rfl) rfl kc_11 (k := 21) rfl (by decide) rfl rfl wl_861 dX11_takeRule_91 ?_
        refine gm_iload_n C dX11_takeRule_94 rfl 2 rfl ?_
        obtain ⟨h13, hf⟩ := gm_ck_s hf
        refine gm_iald C (Nat.le_of_ble_eq_true rfl) rfl rfl h13 dX11_takeRule_95 ?_
        obtain ⟨v14, ev14, hf⟩ := gm_bp1_s hf
        refine gm_callSi (As := [.int (S9.1 4 x1.toNatClampNeg), .int (S9.1 5 x1.toNatClampNeg), .int (S9.1 6 x1.toNatClampNeg)]) C (Mo_areOf_c l cf ad ev14 (S := S9)) wy_Mo_areOf wl_1009 rfl ⟨(Nat.le_of_ble_eq_true rfl), (Nat.le_of_ble_eq_true rfl)⟩ rfl (Nat.le_of_ble_eq_true rfl) dX11_takeRule_96 ?_
        refine gm_if_ne C 109 dX11_takeRule_99 (by decide) (fun c15 => ?_) (fun c15 => ?_)
        · have hf := gm_if _ c15 hf
          refine gm_iload_n C dX11_takeRule_109 rfl 0 rfl ?_
          exact gm_iret C hr rfl dX11_takeRule_110 hf
        · have hf := gm_it _ c15 hf
          refine gm_aload_n C dX11_takeRule_102 rfl 1 rfl ?_
          refine gm_iconst (v := 4) C dX11_takeRule_103 (by decide) ?_
          refine gm_iload_n C dX11_takeRule_104 rfl 3 rfl ?_
          obtain ⟨v16, S17, eS17, hf⟩ := gm_bp2_s hf
          refine gm_callVi (As := [.int 4, .int x7]) C (Mo_fails_c l cf ad eS17) (Nat.le_of_ble_eq_true rfl) rfl kc_11 wy_Mo_fails rfl wl_974 rfl ⟨(Nat.le_of_ble_eq_true rfl), (Nat.le_of_ble_eq_true rfl)⟩ rfl (Nat.le_of_ble_eq_true rfl) dX11_takeRule_105 ?_
          exact gm_iret C hr rfl dX11_takeRule_108 hf
    have hf := hx
    refine gm_if_le C 61 dX11_takeRule_54 (by decide) (fun c18 => ?_) (fun c18 => ?_)
    · have hf := gm_it _ c18 hf
      refine gm_aload_n C dX11_takeRule_61 rfl 2 rfl ?_
      refine gm_aload_n C dX11_takeRule_62 rfl 2 rfl ?_
      refine gm_getr (j := 6) (u := 6) C (Nat.le_of_ble_eq_true rfl) rfl kc_11 (k := 21) rfl (by decide) rfl rfl wl_861 dX11_takeRule_63 ?_
      refine gm_iload_n C dX11_takeRule_66 rfl 3 rfl ?_
      refine gm_iconst (v := 0) C dX11_takeRule_67 (by decide) ?_
      refine gm_bipush (v := 99) C dX11_takeRule_68 (by decide) ?_
      obtain ⟨v19, S20, eS20, hf⟩ := gm_bp2_s hf
      refine gm_callVi (As := [.ref (ad 6), .int x1, .int 0, .int 99]) C (Mo_into_c l cf ad gm_w_6 eS20) (Nat.le_of_ble_eq_true rfl) rfl kc_11 wy_Mo_into rfl wl_1005 rfl ⟨(Nat.le_of_ble_eq_true rfl), (Nat.le_of_ble_eq_true rfl)⟩ rfl (Nat.le_of_ble_eq_true rfl) dX11_takeRule_70 ?_
      cases hf
      exact gm_lvp [2, 3, 0] rfl key
    · have hf := gm_if _ c18 hf
      refine gm_iload_n C dX11_takeRule_57 rfl 1 rfl ?_
      refine gm_goto C 73 dX11_takeRule_58 (by decide) ?_
      cases hf
      exact gm_lvp [2, 3, 0] rfl key
  have hf := hx
  refine gm_if_le C 35 dX11_takeRule_28 (by decide) (fun c21 => ?_) (fun c21 => ?_)
  · have hf := gm_it _ c21 hf
    refine gm_aload_n C dX11_takeRule_35 rfl 2 rfl ?_
    refine gm_aload_n C dX11_takeRule_36 rfl 2 rfl ?_
    refine gm_getr (j := 5) (u := 5) C (Nat.le_of_ble_eq_true rfl) rfl kc_11 (k := 20) rfl (by decide) rfl rfl wl_860 dX11_takeRule_37 ?_
    refine gm_iload_n C dX11_takeRule_40 rfl 1 rfl ?_
    refine gm_iconst (v := 0) C dX11_takeRule_41 (by decide) ?_
    refine gm_bipush (v := 99) C dX11_takeRule_42 (by decide) ?_
    obtain ⟨v22, S23, eS23, hf⟩ := gm_bp2_s hf
    refine gm_callVi (As := [.ref (ad 5), .int x1, .int 0, .int 99]) C (Mo_into_c l cf ad gm_w_5 eS23) (Nat.le_of_ble_eq_true rfl) rfl kc_11 wy_Mo_into rfl wl_1005 rfl ⟨(Nat.le_of_ble_eq_true rfl), (Nat.le_of_ble_eq_true rfl)⟩ rfl (Nat.le_of_ble_eq_true rfl) dX11_takeRule_44 ?_
    cases hf
    exact gm_lvp [2, 1] rfl key
  · have hf := gm_if _ c21 hf
    refine gm_iload_n C dX11_takeRule_31 rfl 0 rfl ?_
    refine gm_goto C 47 dX11_takeRule_32 (by decide) ?_
    cases hf
    exact gm_lvp [2, 1] rfl key
theorem dX11_takeRoll_0 : decode cX11_takeRoll 0 = .ok (.aload_n 0, 1) := by decide +kernel
theorem dX11_takeRoll_1 : decode cX11_takeRoll 1 = .ok (.getfield 150, 3) := by decide +kernel
theorem dX11_takeRoll_4 : decode cX11_takeRoll 4 = .ok (.istore_n 1, 1) := by decide +kernel
theorem dX11_takeRoll_5 : decode cX11_takeRoll 5 = .ok (.aload_n 0, 1) := by decide +kernel
theorem dX11_takeRoll_6 : decode cX11_takeRoll 6 = .ok (.dup, 1) := by decide +kernel
theorem dX11_takeRoll_7 : decode cX11_takeRoll 7 = .ok (.getfield 150, 3) := by decide +kernel
theorem dX11_takeRoll_10 : decode cX11_takeRoll 10 = .ok (.iconst 1, 1) := by decide +kernel
theorem dX11_takeRoll_11 : decode cX11_takeRoll 11 = .ok (.iadd, 1) := by decide +kernel
theorem dX11_takeRoll_12 : decode cX11_takeRoll 12 = .ok (.putfield 150, 3) := by decide +kernel
theorem dX11_takeRoll_15 : decode cX11_takeRoll 15 = .ok (.aload_n 0, 1) := by decide +kernel
theorem dX11_takeRoll_16 : decode cX11_takeRoll 16 = .ok (.aload_n 0, 1) := by decide +kernel
theorem dX11_takeRoll_17 : decode cX11_takeRoll 17 = .ok (.getfield 32, 3) := by decide +kernel
theorem dX11_takeRoll_20 : decode cX11_takeRoll 20 = .ok (.iload_n 1, 1) := by decide +kernel
theorem dX11_takeRoll_21 : decode cX11_takeRoll 21 = .ok (.iconst 0, 1) := by decide +kernel
theorem dX11_takeRoll_22 : decode cX11_takeRoll 22 = .ok (.aload_n 0, 1) := by decide +kernel
theorem dX11_takeRoll_23 : decode cX11_takeRoll 23 = .ok (.getfield 129, 3) := by decide +kernel
theorem dX11_takeRoll_26 : decode cX11_takeRoll 26 = .ok (.invokevirtual 142, 3) := by decide +kernel
theorem dX11_takeRoll_29 : decode cX11_takeRoll 29 = .ok (.istore_n 2, 1) := by decide +kernel
theorem dX11_takeRoll_30 : decode cX11_takeRoll 30 = .ok (.iload_n 2, 1) := by decide +kernel
theorem dX11_takeRoll_31 : decode cX11_takeRoll 31 = .ok (.ifCond .le 7, 3) := by decide +kernel
theorem dX11_takeRoll_34 : decode cX11_takeRoll 34 = .ok (.iload_n 2, 1) := by decide +kernel
theorem dX11_takeRoll_35 : decode cX11_takeRoll 35 = .ok (.goto 16, 3) := by decide +kernel
theorem dX11_takeRoll_38 : decode cX11_takeRoll 38 = .ok (.aload_n 0, 1) := by decide +kernel
theorem dX11_takeRoll_39 : decode cX11_takeRoll 39 = .ok (.aload_n 0, 1) := by decide +kernel
theorem dX11_takeRoll_40 : decode cX11_takeRoll 40 = .ok (.getfield 35, 3) := by decide +kernel
theorem dX11_takeRoll_43 : decode cX11_takeRoll 43 = .ok (.iload_n 1, 1) := by decide +kernel
theorem dX11_takeRoll_44 : decode cX11_takeRoll 44 = .ok (.iconst 0, 1) := by decide +kernel
theorem dX11_takeRoll_45 : decode cX11_takeRoll 45 = .ok (.sipush 200, 3) := by decide +kernel
theorem dX11_takeRoll_48 : decode cX11_takeRoll 48 = .ok (.invokevirtual 142, 3) := by decide +kernel
theorem dX11_takeRoll_51 : decode cX11_takeRoll 51 = .ok (.ireturn, 1) := by decide +kernel
def Mo_takeRoll (fl : Nat) (S : gm_M) : Option (Int32 × gm_M) :=
  gm_lt (α := Int32) (S.1 0 22) fun x1 =>
  gm_lt (α := gm_M) (gm_ui S 0 22 ((S.1 0 22) + 1)) fun S2 =>
  gm_bp2 (Mo_into fl 7 x1 0 (S2.1 0 15) S2) fun v3 S4 =>
  if v3 ≤ 0 then (
    gm_bp2 (Mo_into fl 8 x1 0 200 S4) fun v6 S7 =>
    some (v6, S7)
  ) else (
    some (v3, S4)
  )
set_option maxHeartbeats 4000000 in
set_option maxRecDepth 100000 in
theorem Mo_takeRoll_c (l : Launch) (cf : gm_C) (ad : Nat → Nat) {fl : Nat}    {S : gm_M} {r : Int32} {S'  : gm_M} (hf : Mo_takeRoll fl S = some (r, S')) : gm_Met l yX11_takeRoll cX11_takeRoll 3 (some .int) 3 73 cf ad gm_sM 17 [.ref (ad 0)] S (some (.int r)) S' := by
  refine gm_met (by decide +kernel) (Nat.le_of_ble_eq_true rfl) ?_
  intro p e s m args below meth c C hr
  have C : gm_F p s m args meth c cf ad 17 cX11_takeRoll 3 RX11 := C
  refine gm_lve (lv' := [(0, .ref (ad 0))]) rfl ?_
  unfold Mo_takeRoll at hf
  refine gm_aload_n C dX11_takeRoll_0 rfl 0 rfl ?_
  refine gm_geti C (Nat.le_of_ble_eq_true rfl) rfl kc_11 (k := 22) rfl (by decide) rfl wl_862 dX11_takeRoll_1 ?_
  obtain ⟨x1, ex1, hf⟩ := gm_lt_s hf
  refine gm_topi ex1 ?_
  refine gm_istore_n (lv' := [(1, .int x1), (0, .ref (ad 0))]) C dX11_takeRoll_4 rfl (by decide) rfl ?_
  refine gm_aload_n C dX11_takeRoll_5 rfl 1 rfl ?_
  refine gm_dup C dX11_takeRoll_6 rfl ?_
  refine gm_geti C (Nat.le_of_ble_eq_true rfl) rfl kc_11 (k := 22) rfl (by decide) rfl wl_862 dX11_takeRoll_7 ?_
  refine gm_iconst (v := 1) C dX11_takeRoll_10 (by decide) ?_
  refine gm_iadd C dX11_takeRoll_11 ?_
  refine gm_puti C (Nat.le_of_ble_eq_true rfl) rfl kc_11 (k := 22) rfl (by decide) rfl rfl (kc_11.2.2.2.1 22 (by decide)) rfl rfl wl_862 dX11_takeRoll_12 ?_
  obtain ⟨S2, eS2, hf⟩ := gm_lt_s hf
  refine gm_topm eS2 ?_
  refine gm_aload_n C dX11_takeRoll_15 rfl 1 rfl ?_
  refine gm_aload_n C dX11_takeRoll_16 rfl 1 rfl ?_
  refine gm_getr (j := 7) (u := 7) C (Nat.le_of_ble_eq_true rfl) rfl kc_11 (k := 23) rfl (by decide) rfl rfl wl_863 dX11_takeRoll_17 ?_
  refine gm_iload_n C dX11_takeRoll_20 rfl 0 rfl ?_
  refine gm_iconst (v := 0) C dX11_takeRoll_21 (by decide) ?_
  refine gm_aload_n C dX11_takeRoll_22 rfl 1 rfl ?_
  refine gm_geti C (Nat.le_of_ble_eq_true rfl) rfl kc_11 (k := 15) rfl (by decide) rfl wl_855 dX11_takeRoll_23 ?_
  obtain ⟨v3, S4, eS4, hf⟩ := gm_bp2_s hf
  refine gm_callVi (As := [.ref (ad 7), .int x1, .int 0, .int (S2.1 0 15)]) C (Mo_into_c l cf ad gm_w_7 eS4) (Nat.le_of_ble_eq_true rfl) rfl kc_11 wy_Mo_into rfl wl_1005 rfl ⟨(Nat.le_of_ble_eq_true rfl), (Nat.le_of_ble_eq_true rfl)⟩ rfl (Nat.le_of_ble_eq_true rfl) dX11_takeRoll_26 ?_
  refine gm_istore_n (lv' := [(2, .int v3), (1, .int x1), (0, .ref (ad 0))]) C dX11_takeRoll_29 rfl (by decide) rfl ?_
  refine gm_iload_n C dX11_takeRoll_30 rfl 0 rfl ?_
  refine gm_if_le C 38 dX11_takeRoll_31 (by decide) (fun c5 => ?_) (fun c5 => ?_)
  · have hf := gm_it _ c5 hf
    refine gm_aload_n C dX11_takeRoll_38 rfl 2 rfl ?_
    refine gm_aload_n C dX11_takeRoll_39 rfl 2 rfl ?_
    refine gm_getr (j := 8) (u := 8) C (Nat.le_of_ble_eq_true rfl) rfl kc_11 (k := 24) rfl (by decide) rfl rfl wl_864 dX11_takeRoll_40 ?_
    refine gm_iload_n C dX11_takeRoll_43 rfl 1 rfl ?_
    refine gm_iconst (v := 0) C dX11_takeRoll_44 (by decide) ?_
    refine gm_sipush (v := 200) C dX11_takeRoll_45 (by decide) ?_
    obtain ⟨v6, S7, eS7, hf⟩ := gm_bp2_s hf
    refine gm_callVi (As := [.ref (ad 8), .int x1, .int 0, .int 200]) C (Mo_into_c l cf ad gm_w_8 eS7) (Nat.le_of_ble_eq_true rfl) rfl kc_11 wy_Mo_into rfl wl_1005 rfl ⟨(Nat.le_of_ble_eq_true rfl), (Nat.le_of_ble_eq_true rfl)⟩ rfl (Nat.le_of_ble_eq_true rfl) dX11_takeRoll_48 ?_
    exact gm_iret C hr rfl dX11_takeRoll_51 hf
  · have hf := gm_if _ c5 hf
    refine gm_iload_n C dX11_takeRoll_34 rfl 0 rfl ?_
    refine gm_goto C 51 dX11_takeRoll_35 (by decide) ?_
    exact gm_iret C hr rfl dX11_takeRoll_51 hf
theorem dX11_takeRider_0 : decode cX11_takeRider 0 = .ok (.aload_n 0, 1) := by decide +kernel
theorem dX11_takeRider_1 : decode cX11_takeRider 1 = .ok (.getfield 153, 3) := by decide +kernel
theorem dX11_takeRider_4 : decode cX11_takeRider 4 = .ok (.istore_n 1, 1) := by decide +kernel
theorem dX11_takeRider_5 : decode cX11_takeRider 5 = .ok (.aload_n 0, 1) := by decide +kernel
theorem dX11_takeRider_6 : decode cX11_takeRider 6 = .ok (.dup, 1) := by decide +kernel
theorem dX11_takeRider_7 : decode cX11_takeRider 7 = .ok (.getfield 153, 3) := by decide +kernel
theorem dX11_takeRider_10 : decode cX11_takeRider 10 = .ok (.iconst 1, 1) := by decide +kernel
theorem dX11_takeRider_11 : decode cX11_takeRider 11 = .ok (.iadd, 1) := by decide +kernel
theorem dX11_takeRider_12 : decode cX11_takeRider 12 = .ok (.putfield 153, 3) := by decide +kernel
theorem dX11_takeRider_15 : decode cX11_takeRider 15 = .ok (.aload_n 0, 1) := by decide +kernel
theorem dX11_takeRider_16 : decode cX11_takeRider 16 = .ok (.aload_n 0, 1) := by decide +kernel
theorem dX11_takeRider_17 : decode cX11_takeRider 17 = .ok (.getfield 38, 3) := by decide +kernel
theorem dX11_takeRider_20 : decode cX11_takeRider 20 = .ok (.iload_n 1, 1) := by decide +kernel
theorem dX11_takeRider_21 : decode cX11_takeRider 21 = .ok (.iconst 0, 1) := by decide +kernel
theorem dX11_takeRider_22 : decode cX11_takeRider 22 = .ok (.iconst 3, 1) := by decide +kernel
theorem dX11_takeRider_23 : decode cX11_takeRider 23 = .ok (.invokevirtual 142, 3) := by decide +kernel
theorem dX11_takeRider_26 : decode cX11_takeRider 26 = .ok (.ireturn, 1) := by decide +kernel
def Mo_takeRider (fl : Nat) (S : gm_M) : Option (Int32 × gm_M) :=
  gm_lt (α := Int32) (S.1 0 25) fun x1 =>
  gm_lt (α := gm_M) (gm_ui S 0 25 ((S.1 0 25) + 1)) fun S2 =>
  gm_bp2 (Mo_into fl 9 x1 0 3 S2) fun v3 S4 =>
  some (v3, S4)
set_option maxHeartbeats 4000000 in
set_option maxRecDepth 100000 in
theorem Mo_takeRider_c (l : Launch) (cf : gm_C) (ad : Nat → Nat) {fl : Nat}    {S : gm_M} {r : Int32} {S'  : gm_M} (hf : Mo_takeRider fl S = some (r, S')) : gm_Met l yX11_takeRider cX11_takeRider 2 (some .int) 3 73 cf ad gm_sM 17 [.ref (ad 0)] S (some (.int r)) S' := by
  refine gm_met (by decide +kernel) (Nat.le_of_ble_eq_true rfl) ?_
  intro p e s m args below meth c C hr
  have C : gm_F p s m args meth c cf ad 17 cX11_takeRider 2 RX11 := C
  refine gm_lve (lv' := [(0, .ref (ad 0))]) rfl ?_
  unfold Mo_takeRider at hf
  refine gm_aload_n C dX11_takeRider_0 rfl 0 rfl ?_
  refine gm_geti C (Nat.le_of_ble_eq_true rfl) rfl kc_11 (k := 25) rfl (by decide) rfl wl_865 dX11_takeRider_1 ?_
  obtain ⟨x1, ex1, hf⟩ := gm_lt_s hf
  refine gm_topi ex1 ?_
  refine gm_istore_n (lv' := [(1, .int x1), (0, .ref (ad 0))]) C dX11_takeRider_4 rfl (by decide) rfl ?_
  refine gm_aload_n C dX11_takeRider_5 rfl 1 rfl ?_
  refine gm_dup C dX11_takeRider_6 rfl ?_
  refine gm_geti C (Nat.le_of_ble_eq_true rfl) rfl kc_11 (k := 25) rfl (by decide) rfl wl_865 dX11_takeRider_7 ?_
  refine gm_iconst (v := 1) C dX11_takeRider_10 (by decide) ?_
  refine gm_iadd C dX11_takeRider_11 ?_
  refine gm_puti C (Nat.le_of_ble_eq_true rfl) rfl kc_11 (k := 25) rfl (by decide) rfl rfl (kc_11.2.2.2.1 25 (by decide)) rfl rfl wl_865 dX11_takeRider_12 ?_
  obtain ⟨S2, eS2, hf⟩ := gm_lt_s hf
  refine gm_topm eS2 ?_
  refine gm_aload_n C dX11_takeRider_15 rfl 1 rfl ?_
  refine gm_aload_n C dX11_takeRider_16 rfl 1 rfl ?_
  refine gm_getr (j := 9) (u := 9) C (Nat.le_of_ble_eq_true rfl) rfl kc_11 (k := 26) rfl (by decide) rfl rfl wl_866 dX11_takeRider_17 ?_
  refine gm_iload_n C dX11_takeRider_20 rfl 0 rfl ?_
  refine gm_iconst (v := 0) C dX11_takeRider_21 (by decide) ?_
  refine gm_iconst (v := 3) C dX11_takeRider_22 (by decide) ?_
  obtain ⟨v3, S4, eS4, hf⟩ := gm_bp2_s hf
  refine gm_callVi (As := [.ref (ad 9), .int x1, .int 0, .int 3]) C (Mo_into_c l cf ad gm_w_9 eS4) (Nat.le_of_ble_eq_true rfl) rfl kc_11 wy_Mo_into rfl wl_1005 rfl ⟨(Nat.le_of_ble_eq_true rfl), (Nat.le_of_ble_eq_true rfl)⟩ rfl (Nat.le_of_ble_eq_true rfl) dX11_takeRider_23 ?_
  exact gm_iret C hr rfl dX11_takeRider_26 hf
theorem dX11_takeBody_0 : decode cX11_takeBody 0 = .ok (.iload_n 1, 1) := by decide +kernel
theorem dX11_takeBody_1 : decode cX11_takeBody 1 = .ok (.tableswitch 51 0 3 #[31, 36, 41, 46], 31) := by decide +kernel
theorem dX11_takeBody_32 : decode cX11_takeBody 32 = .ok (.aload_n 0, 1) := by decide +kernel
theorem dX11_takeBody_33 : decode cX11_takeBody 33 = .ok (.invokevirtual 156, 3) := by decide +kernel
theorem dX11_takeBody_36 : decode cX11_takeBody 36 = .ok (.ireturn, 1) := by decide +kernel
theorem dX11_takeBody_37 : decode cX11_takeBody 37 = .ok (.aload_n 0, 1) := by decide +kernel
theorem dX11_takeBody_38 : decode cX11_takeBody 38 = .ok (.invokevirtual 159, 3) := by decide +kernel
theorem dX11_takeBody_41 : decode cX11_takeBody 41 = .ok (.ireturn, 1) := by decide +kernel
theorem dX11_takeBody_42 : decode cX11_takeBody 42 = .ok (.aload_n 0, 1) := by decide +kernel
theorem dX11_takeBody_43 : decode cX11_takeBody 43 = .ok (.invokevirtual 162, 3) := by decide +kernel
theorem dX11_takeBody_46 : decode cX11_takeBody 46 = .ok (.ireturn, 1) := by decide +kernel
theorem dX11_takeBody_47 : decode cX11_takeBody 47 = .ok (.aload_n 0, 1) := by decide +kernel
theorem dX11_takeBody_48 : decode cX11_takeBody 48 = .ok (.invokevirtual 165, 3) := by decide +kernel
theorem dX11_takeBody_51 : decode cX11_takeBody 51 = .ok (.ireturn, 1) := by decide +kernel
theorem dX11_takeBody_52 : decode cX11_takeBody 52 = .ok (.aload_n 0, 1) := by decide +kernel
theorem dX11_takeBody_53 : decode cX11_takeBody 53 = .ok (.invokevirtual 168, 3) := by decide +kernel
theorem dX11_takeBody_56 : decode cX11_takeBody 56 = .ok (.ireturn, 1) := by decide +kernel
def Mo_takeBody (fl : Nat) (a0 : Int32) (S : gm_M) : Option (Int32 × gm_M) :=
  if a0 = 0 then (
    gm_bp2 (Mo_takeFigures fl S) fun v2 S3 =>
    some (v2, S3)
  ) else (
  if a0 = 1 then (
    gm_bp2 (Mo_takeMode fl S) fun v5 S6 =>
    some (v5, S6)
  ) else (
  if a0 = 2 then (
    gm_bp2 (Mo_takeRule fl S) fun v8 S9 =>
    some (v8, S9)
  ) else (
  if a0 = 3 then (
    gm_bp2 (Mo_takeRoll fl S) fun v11 S12 =>
    some (v11, S12)
  ) else (
    gm_bp2 (Mo_takeRider fl S) fun v13 S14 =>
    some (v13, S14)
  ))))
set_option maxHeartbeats 4000000 in
set_option maxRecDepth 100000 in
theorem Mo_takeBody_c (l : Launch) (cf : gm_C) (ad : Nat → Nat) {fl : Nat}   {a0 : Int32} {S : gm_M} {r : Int32} {S'  : gm_M} (hf : Mo_takeBody fl a0 S = some (r, S')) : gm_Met l yX11_takeBody cX11_takeBody 2 (some .int) 4 96 cf ad gm_sM 17 [.ref (ad 0), .int a0] S (some (.int r)) S' := by
  refine gm_met (by decide +kernel) (Nat.le_of_ble_eq_true rfl) ?_
  intro p e s m args below meth c C hr
  have C : gm_F p s m args meth c cf ad 17 cX11_takeBody 2 RX11 := C
  refine gm_lve (lv' := [(0, .ref (ad 0)), (1, .int a0)]) rfl ?_
  unfold Mo_takeBody at hf
  refine gm_iload_n C dX11_takeBody_0 rfl 1 rfl ?_
  by_cases c1 : a0 = 0
  · have hf := gm_it _ c1 hf
    refine gm_tableIn C 32 dX11_takeBody_1 (by rw [c1]; decide) (by rw [c1]; decide) (by rw [c1]; rfl) (by decide) ?_
    refine gm_aload_n C dX11_takeBody_32 rfl 0 rfl ?_
    obtain ⟨v2, S3, eS3, hf⟩ := gm_bp2_s hf
    refine gm_callVi (As := []) C (Mo_takeFigures_c l cf ad eS3) (Nat.le_of_ble_eq_true rfl) rfl kc_11 wy_Mo_takeFigures rfl wl_986 rfl ⟨(Nat.le_of_ble_eq_true rfl), (Nat.le_of_ble_eq_true rfl)⟩ rfl (Nat.le_of_ble_eq_true rfl) dX11_takeBody_33 ?_
    exact gm_iret C hr rfl dX11_takeBody_36 hf
  · have hf := gm_if _ c1 hf
    by_cases c4 : a0 = 1
    · have hf := gm_it _ c4 hf
      refine gm_tableIn C 37 dX11_takeBody_1 (by rw [c4]; decide) (by rw [c4]; decide) (by rw [c4]; rfl) (by decide) ?_
      refine gm_aload_n C dX11_takeBody_37 rfl 0 rfl ?_
      obtain ⟨v5, S6, eS6, hf⟩ := gm_bp2_s hf
      refine gm_callVi (As := []) C (Mo_takeMode_c l cf ad eS6) (Nat.le_of_ble_eq_true rfl) rfl kc_11 wy_Mo_takeMode rfl wl_997 rfl ⟨(Nat.le_of_ble_eq_true rfl), (Nat.le_of_ble_eq_true rfl)⟩ rfl (Nat.le_of_ble_eq_true rfl) dX11_takeBody_38 ?_
      exact gm_iret C hr rfl dX11_takeBody_41 hf
    · have hf := gm_if _ c4 hf
      by_cases c7 : a0 = 2
      · have hf := gm_it _ c7 hf
        refine gm_tableIn C 42 dX11_takeBody_1 (by rw [c7]; decide) (by rw [c7]; decide) (by rw [c7]; rfl) (by decide) ?_
        refine gm_aload_n C dX11_takeBody_42 rfl 0 rfl ?_
        obtain ⟨v8, S9, eS9, hf⟩ := gm_bp2_s hf
        refine gm_callVi (As := []) C (Mo_takeRule_c l cf ad eS9) (Nat.le_of_ble_eq_true rfl) rfl kc_11 wy_Mo_takeRule rfl wl_1001 rfl ⟨(Nat.le_of_ble_eq_true rfl), (Nat.le_of_ble_eq_true rfl)⟩ rfl (Nat.le_of_ble_eq_true rfl) dX11_takeBody_43 ?_
        exact gm_iret C hr rfl dX11_takeBody_46 hf
      · have hf := gm_if _ c7 hf
        by_cases c10 : a0 = 3
        · have hf := gm_it _ c10 hf
          refine gm_tableIn C 47 dX11_takeBody_1 (by rw [c10]; decide) (by rw [c10]; decide) (by rw [c10]; rfl) (by decide) ?_
          refine gm_aload_n C dX11_takeBody_47 rfl 0 rfl ?_
          obtain ⟨v11, S12, eS12, hf⟩ := gm_bp2_s hf
          refine gm_callVi (As := []) C (Mo_takeRoll_c l cf ad eS12) (Nat.le_of_ble_eq_true rfl) rfl kc_11 wy_Mo_takeRoll rfl wl_1018 rfl ⟨(Nat.le_of_ble_eq_true rfl), (Nat.le_of_ble_eq_true rfl)⟩ rfl (Nat.le_of_ble_eq_true rfl) dX11_takeBody_48 ?_
          exact gm_iret C hr rfl dX11_takeBody_51 hf
        · have hf := gm_if _ c10 hf
          have nc1 : (a0).toInt ≠ 0 := gm_nt c1
          have nc4 : (a0).toInt ≠ 1 := gm_nt c4
          have nc7 : (a0).toInt ≠ 2 := gm_nt c7
          have nc10 : (a0).toInt ≠ 3 := gm_nt c10
          refine gm_tableOut C 52 dX11_takeBody_1 (by omega) (by decide) ?_
          refine gm_aload_n C dX11_takeBody_52 rfl 0 rfl ?_
          obtain ⟨v13, S14, eS14, hf⟩ := gm_bp2_s hf
          refine gm_callVi (As := []) C (Mo_takeRider_c l cf ad eS14) (Nat.le_of_ble_eq_true rfl) rfl kc_11 wy_Mo_takeRider rfl wl_1022 rfl ⟨(Nat.le_of_ble_eq_true rfl), (Nat.le_of_ble_eq_true rfl)⟩ rfl (Nat.le_of_ble_eq_true rfl) dX11_takeBody_53 ?_
          exact gm_iret C hr rfl dX11_takeBody_56 hf
