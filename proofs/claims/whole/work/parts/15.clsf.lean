theorem dX3_follow_0 : decode cX3_follow 0 = .ok (.aload_n 0, 1) := by decide +kernel
theorem dX3_follow_1 : decode cX3_follow 1 = .ok (.getfield 31, 3) := by decide +kernel
theorem dX3_follow_4 : decode cX3_follow 4 = .ok (.aload_n 1, 1) := by decide +kernel
theorem dX3_follow_5 : decode cX3_follow 5 = .ok (.getfield 35, 3) := by decide +kernel
theorem dX3_follow_8 : decode cX3_follow 8 = .ok (.if_icmp .eq 7, 3) := by decide +kernel
theorem dX3_follow_11 : decode cX3_follow 11 = .ok (.iconst 1, 1) := by decide +kernel
theorem dX3_follow_12 : decode cX3_follow 12 = .ok (.goto 4, 3) := by decide +kernel
theorem dX3_follow_15 : decode cX3_follow 15 = .ok (.iconst 0, 1) := by decide +kernel
theorem dX3_follow_16 : decode cX3_follow 16 = .ok (.istore_n 2, 1) := by decide +kernel
theorem dX3_follow_17 : decode cX3_follow 17 = .ok (.aload_n 0, 1) := by decide +kernel
theorem dX3_follow_18 : decode cX3_follow 18 = .ok (.aload_n 1, 1) := by decide +kernel
theorem dX3_follow_19 : decode cX3_follow 19 = .ok (.getfield 35, 3) := by decide +kernel
theorem dX3_follow_22 : decode cX3_follow 22 = .ok (.putfield 31, 3) := by decide +kernel
theorem dX3_follow_25 : decode cX3_follow 25 = .ok (.aload_n 0, 1) := by decide +kernel
theorem dX3_follow_26 : decode cX3_follow 26 = .ok (.aload_n 1, 1) := by decide +kernel
theorem dX3_follow_27 : decode cX3_follow 27 = .ok (.invokevirtual 38, 3) := by decide +kernel
theorem dX3_follow_30 : decode cX3_follow 30 = .ok (.putfield 42, 3) := by decide +kernel
theorem dX3_follow_33 : decode cX3_follow 33 = .ok (.aload_n 0, 1) := by decide +kernel
theorem dX3_follow_34 : decode cX3_follow 34 = .ok (.sipush 157, 3) := by decide +kernel
theorem dX3_follow_37 : decode cX3_follow 37 = .ok (.aload_n 0, 1) := by decide +kernel
theorem dX3_follow_38 : decode cX3_follow 38 = .ok (.getfield 42, 3) := by decide +kernel
theorem dX3_follow_41 : decode cX3_follow 41 = .ok (.bipush 63, 2) := by decide +kernel
theorem dX3_follow_43 : decode cX3_follow 43 = .ok (.iadd, 1) := by decide +kernel
theorem dX3_follow_44 : decode cX3_follow 44 = .ok (.bipush 64, 2) := by decide +kernel
theorem dX3_follow_46 : decode cX3_follow 46 = .ok (.idiv, 1) := by decide +kernel
theorem dX3_follow_47 : decode cX3_follow 47 = .ok (.invokestatic 44, 3) := by decide +kernel
theorem dX3_follow_50 : decode cX3_follow 50 = .ok (.putfield 50, 3) := by decide +kernel
theorem dX3_follow_53 : decode cX3_follow 53 = .ok (.iconst 0, 1) := by decide +kernel
theorem dX3_follow_54 : decode cX3_follow 54 = .ok (.istore_n 3, 1) := by decide +kernel
theorem dX3_follow_55 : decode cX3_follow 55 = .ok (.iload_n 3, 1) := by decide +kernel
theorem dX3_follow_56 : decode cX3_follow 56 = .ok (.aload_n 1, 1) := by decide +kernel
theorem dX3_follow_57 : decode cX3_follow 57 = .ok (.getfield 53, 3) := by decide +kernel
theorem dX3_follow_60 : decode cX3_follow 60 = .ok (.if_icmp .ge 53, 3) := by decide +kernel
theorem dX3_follow_63 : decode cX3_follow 63 = .ok (.iload_n 2, 1) := by decide +kernel
theorem dX3_follow_64 : decode cX3_follow 64 = .ok (.ifCond .ne 26, 3) := by decide +kernel
theorem dX3_follow_67 : decode cX3_follow 67 = .ok (.iload_n 3, 1) := by decide +kernel
theorem dX3_follow_68 : decode cX3_follow 68 = .ok (.aload_n 0, 1) := by decide +kernel
theorem dX3_follow_69 : decode cX3_follow 69 = .ok (.getfield 56, 3) := by decide +kernel
theorem dX3_follow_72 : decode cX3_follow 72 = .ok (.if_icmp .ge 18, 3) := by decide +kernel
theorem dX3_follow_75 : decode cX3_follow 75 = .ok (.aload_n 0, 1) := by decide +kernel
theorem dX3_follow_76 : decode cX3_follow 76 = .ok (.getfield 16, 3) := by decide +kernel
theorem dX3_follow_79 : decode cX3_follow 79 = .ok (.iload_n 3, 1) := by decide +kernel
theorem dX3_follow_80 : decode cX3_follow 80 = .ok (.iaload, 1) := by decide +kernel
theorem dX3_follow_81 : decode cX3_follow 81 = .ok (.aload_n 1, 1) := by decide +kernel
theorem dX3_follow_82 : decode cX3_follow 82 = .ok (.getfield 57, 3) := by decide +kernel
theorem dX3_follow_85 : decode cX3_follow 85 = .ok (.iload_n 3, 1) := by decide +kernel
theorem dX3_follow_86 : decode cX3_follow 86 = .ok (.iaload, 1) := by decide +kernel
theorem dX3_follow_87 : decode cX3_follow 87 = .ok (.if_icmp .eq 20, 3) := by decide +kernel
theorem dX3_follow_90 : decode cX3_follow 90 = .ok (.aload_n 0, 1) := by decide +kernel
theorem dX3_follow_91 : decode cX3_follow 91 = .ok (.getfield 16, 3) := by decide +kernel
theorem dX3_follow_94 : decode cX3_follow 94 = .ok (.iload_n 3, 1) := by decide +kernel
theorem dX3_follow_95 : decode cX3_follow 95 = .ok (.aload_n 1, 1) := by decide +kernel
theorem dX3_follow_96 : decode cX3_follow 96 = .ok (.getfield 57, 3) := by decide +kernel
theorem dX3_follow_99 : decode cX3_follow 99 = .ok (.iload_n 3, 1) := by decide +kernel
theorem dX3_follow_100 : decode cX3_follow 100 = .ok (.iaload, 1) := by decide +kernel
theorem dX3_follow_101 : decode cX3_follow 101 = .ok (.iastore, 1) := by decide +kernel
theorem dX3_follow_102 : decode cX3_follow 102 = .ok (.aload_n 0, 1) := by decide +kernel
theorem dX3_follow_103 : decode cX3_follow 103 = .ok (.iload_n 3, 1) := by decide +kernel
theorem dX3_follow_104 : decode cX3_follow 104 = .ok (.invokevirtual 60, 3) := by decide +kernel
theorem dX3_follow_107 : decode cX3_follow 107 = .ok (.iinc 3 1, 3) := by decide +kernel
theorem dX3_follow_110 : decode cX3_follow 110 = .ok (.goto (-55), 3) := by decide +kernel
theorem dX3_follow_113 : decode cX3_follow 113 = .ok (.aload_n 0, 1) := by decide +kernel
theorem dX3_follow_114 : decode cX3_follow 114 = .ok (.aload_n 1, 1) := by decide +kernel
theorem dX3_follow_115 : decode cX3_follow 115 = .ok (.getfield 53, 3) := by decide +kernel
theorem dX3_follow_118 : decode cX3_follow 118 = .ok (.putfield 56, 3) := by decide +kernel
theorem dX3_follow_121 : decode cX3_follow 121 = .ok (.aload_n 0, 1) := by decide +kernel
theorem dX3_follow_122 : decode cX3_follow 122 = .ok (.aload_n 1, 1) := by decide +kernel
theorem dX3_follow_123 : decode cX3_follow 123 = .ok (.getfield 64, 3) := by decide +kernel
theorem dX3_follow_126 : decode cX3_follow 126 = .ok (.putfield 67, 3) := by decide +kernel
theorem dX3_follow_129 : decode cX3_follow 129 = .ok (.aload_n 0, 1) := by decide +kernel
theorem dX3_follow_130 : decode cX3_follow 130 = .ok (.iconst 0, 1) := by decide +kernel
theorem dX3_follow_131 : decode cX3_follow 131 = .ok (.putfield 68, 3) := by decide +kernel
theorem dX3_follow_134 : decode cX3_follow 134 = .ok (.iconst 0, 1) := by decide +kernel
theorem dX3_follow_135 : decode cX3_follow 135 = .ok (.istore_n 3, 1) := by decide +kernel
theorem dX3_follow_136 : decode cX3_follow 136 = .ok (.iload_n 3, 1) := by decide +kernel
theorem dX3_follow_137 : decode cX3_follow 137 = .ok (.aload_n 0, 1) := by decide +kernel
theorem dX3_follow_138 : decode cX3_follow 138 = .ok (.getfield 50, 3) := by decide +kernel
theorem dX3_follow_141 : decode cX3_follow 141 = .ok (.if_icmp .ge 39, 3) := by decide +kernel
theorem dX3_follow_144 : decode cX3_follow 144 = .ok (.aload_n 0, 1) := by decide +kernel
theorem dX3_follow_145 : decode cX3_follow 145 = .ok (.getfield 20, 3) := by decide +kernel
theorem dX3_follow_148 : decode cX3_follow 148 = .ok (.iload_n 3, 1) := by decide +kernel
theorem dX3_follow_149 : decode cX3_follow 149 = .ok (.aload_n 0, 1) := by decide +kernel
theorem dX3_follow_150 : decode cX3_follow 150 = .ok (.iload_n 3, 1) := by decide +kernel
theorem dX3_follow_151 : decode cX3_follow 151 = .ok (.iconst (-1), 1) := by decide +kernel
theorem dX3_follow_152 : decode cX3_follow 152 = .ok (.invokevirtual 71, 3) := by decide +kernel
theorem dX3_follow_155 : decode cX3_follow 155 = .ok (.lastore, 1) := by decide +kernel
theorem dX3_follow_156 : decode cX3_follow 156 = .ok (.aload_n 0, 1) := by decide +kernel
theorem dX3_follow_157 : decode cX3_follow 157 = .ok (.dup, 1) := by decide +kernel
theorem dX3_follow_158 : decode cX3_follow 158 = .ok (.getfield 68, 3) := by decide +kernel
theorem dX3_follow_161 : decode cX3_follow 161 = .ok (.aload_n 0, 1) := by decide +kernel
theorem dX3_follow_162 : decode cX3_follow 162 = .ok (.getfield 20, 3) := by decide +kernel
theorem dX3_follow_165 : decode cX3_follow 165 = .ok (.iload_n 3, 1) := by decide +kernel
theorem dX3_follow_166 : decode cX3_follow 166 = .ok (.laload, 1) := by decide +kernel
theorem dX3_follow_167 : decode cX3_follow 167 = .ok (.invokestatic 75, 3) := by decide +kernel
theorem dX3_follow_170 : decode cX3_follow 170 = .ok (.iadd, 1) := by decide +kernel
theorem dX3_follow_171 : decode cX3_follow 171 = .ok (.putfield 68, 3) := by decide +kernel
theorem dX3_follow_174 : decode cX3_follow 174 = .ok (.iinc 3 1, 3) := by decide +kernel
theorem dX3_follow_177 : decode cX3_follow 177 = .ok (.goto (-41), 3) := by decide +kernel
theorem dX3_follow_180 : decode cX3_follow 180 = .ok (.return_, 1) := by decide +kernel
def Tb_follow_L55_b (fl : Nat) (x1 : Int32) (rec : Int32 → gm_M → Option (gm_M)) (y7 : Int32) (S8 : gm_M) : Option (gm_M) :=
  if S8.1 8 6 ≤ y7 then (
    some (S8)
  ) else (
    gm_bp1 (show Option (gm_M) from
      if x1 = 0 then (
        if S8.1 12 7 ≤ y7 then (
          gm_ck (y7) 4 <|
          gm_ck (y7) 4 <|
          gm_lt (α := gm_M) (gm_ui S8 18 (y7.toNatClampNeg) (S8.1 9 y7.toNatClampNeg)) fun S21 =>
          gm_bp1 (Tb_fillRow fl y7 S21) fun S22 =>
          some (S22)
        ) else (
          gm_ck (y7) 4 <|
          gm_ck (y7) 4 <|
          if S8.1 18 y7.toNatClampNeg = S8.1 9 y7.toNatClampNeg then (
            some (S8)
          ) else (
            gm_ck (y7) 4 <|
            gm_ck (y7) 4 <|
            gm_lt (α := gm_M) (gm_ui S8 18 (y7.toNatClampNeg) (S8.1 9 y7.toNatClampNeg)) fun S28 =>
            gm_bp1 (Tb_fillRow fl y7 S28) fun S29 =>
            some (S29)
          )
        )
      ) else (
        gm_ck (y7) 4 <|
        gm_ck (y7) 4 <|
        gm_lt (α := gm_M) (gm_ui S8 18 (y7.toNatClampNeg) (S8.1 9 y7.toNatClampNeg)) fun S16 =>
        gm_bp1 (Tb_fillRow fl y7 S16) fun S17 =>
        some (S17)
      )
    ) fun S11 =>
    gm_lt (α := Int32) (y7 + 1) fun x12 =>
    rec x12 S11
  )
def Tb_follow_L55 (fl : Nat) (x1 : Int32) : Nat → Int32 → gm_M → Option (gm_M)
  | 0 => fun _ _ => none
  | n + 1 => Tb_follow_L55_b fl x1 (Tb_follow_L55 fl x1 n)
def Tb_follow_L136_b (fl : Nat) (rec : Int32 → gm_M → Option (gm_M)) (y33 : Int32) (S34 : gm_M) : Option (gm_M) :=
  if S34.1 12 6 ≤ y33 then (
    some (S34)
  ) else (
    gm_bp1 (Tb_joinedWord fl y33 (-1) S34) fun v37 =>
    gm_ck (y33) 157 <|
    gm_lt (α := gm_M) (gm_uj S34 19 (y33.toNatClampNeg) v37) fun S39 =>
    gm_ck (y33) 157 <|
    gm_bp1 (Lg_bitCount (S39.2 19 y33.toNatClampNeg)) fun v41 =>
    gm_lt (α := gm_M) (gm_ui S39 12 9 ((S39.1 12 9) + v41)) fun S42 =>
    gm_lt (α := Int32) (y33 + 1) fun x43 =>
    rec x43 S42
  )
def Tb_follow_L136 (fl : Nat) : Nat → Int32 → gm_M → Option (gm_M)
  | 0 => fun _ _ => none
  | n + 1 => Tb_follow_L136_b fl (Tb_follow_L136 fl n)
def Tb_follow (fl : Nat) (S : gm_M) : Option gm_M :=
  gm_bp1 (show Option (Int32) from
    if S.1 12 4 = S.1 8 3 then (
      some (0)
    ) else (
      some (1)
    )
  ) fun x1 =>
  gm_lt (α := gm_M) (gm_ui S 12 4 (S.1 8 3)) fun S2 =>
  gm_bp1 (Tr_numbers fl 8 S2) fun v3 =>
  gm_lt (α := gm_M) (gm_ui S2 12 5 v3) fun S4 =>
  gm_lt (α := Int32) (if ((S4.1 12 5) + 63) / 64 < 157 then ((S4.1 12 5) + 63) / 64 else 157) fun x5 =>
  gm_lt (α := gm_M) (gm_ui S4 12 6 x5) fun S6 =>
  gm_bp1 (Tb_follow_L55 fl x1 fl 0 S6) fun S9 =>
  gm_lt (α := gm_M) (gm_ui S9 12 7 (S9.1 8 6)) fun S30 =>
  gm_lt (α := gm_M) (gm_ui S30 12 8 (S30.1 8 4)) fun S31 =>
  gm_lt (α := gm_M) (gm_ui S31 12 9 0) fun S32 =>
  gm_bp1 (Tb_follow_L136 fl fl 0 S32) fun S35 =>
  some S35
set_option maxHeartbeats 4000000 in
set_option maxRecDepth 100000 in
theorem Tb_follow_c (l : Launch) (cf : gm_C) (ad : Nat → Nat) {fl : Nat}    {S : gm_M}  {S'  : gm_M} (hf : Tb_follow fl S = some S') : gm_Met l yX3_follow cX3_follow 4 none 4 80 cf ad gm_sC 106 [.ref (ad 12), .ref (ad 8)] S none S' := by
  refine gm_met (by decide +kernel) (Nat.le_of_ble_eq_true rfl) ?_
  intro p e s m args below meth c C hr
  have C : gm_F p s m args meth c cf ad 106 cX3_follow 4 RX3 := C
  refine gm_lve (lv' := [(0, .ref (ad 12)), (1, .ref (ad 8))]) rfl ?_
  unfold Tb_follow at hf
  refine gm_aload_n C dX3_follow_0 rfl 0 rfl ?_
  refine gm_geti C (Nat.le_of_ble_eq_true rfl) rfl kc_3 (k := 4) rfl (by decide) rfl wl_207 dX3_follow_1 ?_
  refine gm_aload_n C dX3_follow_4 rfl 1 rfl ?_
  refine gm_geti C (Nat.le_of_ble_eq_true rfl) rfl kc_9 (k := 3) rfl (by decide) rfl wl_110 dX3_follow_5 ?_
  obtain ⟨x1, hx, hf⟩ := gm_bp1_s hf
  have key : gm_G p l e { frames := 4, cells := 0, slots := 0, locals := 80 } s m args below meth c (MQ below (gm_Q cf ad gm_sC 106 none S') args s 0 0 (gm_A ad 106)) cf ad gm_sC 106 4 S 16 [(0, .ref (ad 12)), (1, .ref (ad 8))] [.int x1] := by
    refine gm_istore_n (lv' := [(2, .int x1), (0, .ref (ad 12)), (1, .ref (ad 8))]) C dX3_follow_16 rfl (by decide) rfl ?_
    refine gm_aload_n C dX3_follow_17 rfl 1 rfl ?_
    refine gm_aload_n C dX3_follow_18 rfl 2 rfl ?_
    refine gm_geti C (Nat.le_of_ble_eq_true rfl) rfl kc_9 (k := 3) rfl (by decide) rfl wl_110 dX3_follow_19 ?_
    refine gm_puti C (Nat.le_of_ble_eq_true rfl) rfl kc_3 (k := 4) rfl (by decide) rfl rfl (kc_3.2.2.2.1 4 (by decide)) rfl rfl wl_207 dX3_follow_22 ?_
    obtain ⟨S2, eS2, hf⟩ := gm_lt_s hf
    refine gm_topm eS2 ?_
    refine gm_aload_n C dX3_follow_25 rfl 1 rfl ?_
    refine gm_aload_n C dX3_follow_26 rfl 2 rfl ?_
    obtain ⟨v3, ev3, hf⟩ := gm_bp1_s hf
    refine gm_callVi (As := []) C (Tr_numbers_c l cf ad gm_tr_8 ev3) (Nat.le_of_ble_eq_true rfl) rfl kc_9 wy_Tr_numbers rfl wl_484 rfl ⟨(Nat.le_of_ble_eq_true rfl), (Nat.le_of_ble_eq_true rfl)⟩ rfl (Nat.le_of_ble_eq_true rfl) dX3_follow_27 ?_
    refine gm_puti C (Nat.le_of_ble_eq_true rfl) rfl kc_3 (k := 5) rfl (by decide) rfl rfl (kc_3.2.2.2.1 5 (by decide)) rfl rfl wl_208 dX3_follow_30 ?_
    obtain ⟨S4, eS4, hf⟩ := gm_lt_s hf
    refine gm_topm eS4 ?_
    refine gm_aload_n C dX3_follow_33 rfl 1 rfl ?_
    refine gm_sipush (v := 157) C dX3_follow_34 (by decide) ?_
    refine gm_aload_n C dX3_follow_37 rfl 1 rfl ?_
    refine gm_geti C (Nat.le_of_ble_eq_true rfl) rfl kc_3 (k := 5) rfl (by decide) rfl wl_208 dX3_follow_38 ?_
    refine gm_bipush (v := 63) C dX3_follow_41 (by decide) ?_
    refine gm_iadd C dX3_follow_43 ?_
    refine gm_bipush (v := 64) C dX3_follow_44 (by decide) ?_
    refine gm_idiv C dX3_follow_46 (by decide) ?_
    refine gm_mmin C wl_485 wm_min.1 wm_min.2.1 wm_min.2.2 (Nat.le_of_ble_eq_true rfl) (Nat.le_of_ble_eq_true rfl) dX3_follow_47 ?_
    obtain ⟨x5, ex5, hf⟩ := gm_lt_s hf
    refine gm_topi ex5 ?_
    refine gm_puti C (Nat.le_of_ble_eq_true rfl) rfl kc_3 (k := 6) rfl (by decide) rfl rfl (kc_3.2.2.2.1 6 (by decide)) rfl rfl wl_209 dX3_follow_50 ?_
    obtain ⟨S6, eS6, hf⟩ := gm_lt_s hf
    refine gm_topm eS6 ?_
    refine gm_iconst (v := 0) C dX3_follow_53 (by decide) ?_
    refine gm_istore_n (lv' := [(3, .int 0), (2, .int x1), (0, .ref (ad 12)), (1, .ref (ad 8))]) C dX3_follow_54 rfl (by decide) rfl ?_
    have L55 : ∀ (n : Nat) (y7 : Int32) (S8 : gm_M) (S9 : gm_M), Tb_follow_L55 fl x1 n y7 S8 = some (S9) → gm_G p l e { frames := 4, cells := 0, slots := 0, locals := 80 } s m args below meth c (MQ below (gm_Q cf ad gm_sC 106 none S') args s 0 0 (gm_A ad 106)) cf ad gm_sC 106 4 S9 113 [(0, .ref (ad 12)), (1, .ref (ad 8))] [] → gm_G p l e { frames := 4, cells := 0, slots := 0, locals := 80 } s m args below meth c (MQ below (gm_Q cf ad gm_sC 106 none S') args s 0 0 (gm_A ad 106)) cf ad gm_sC 106 4 S8 55 [(0, .ref (ad 12)), (1, .ref (ad 8)), (2, .int x1), (3, .int y7)] [] := by
      intro n
      induction n with
      | zero => intro y7 S8 S9 hf K; cases (show (none : Option _) = some _ from hf)
      | succ n ih =>
        intro y7 S8 S9 hf K
        have hf : Tb_follow_L55_b fl x1 (Tb_follow_L55 fl x1 n) y7 S8 = some (S9) := hf
        unfold Tb_follow_L55_b at hf
        refine gm_iload_n C dX3_follow_55 rfl 3 rfl ?_
        refine gm_aload_n C dX3_follow_56 rfl 1 rfl ?_
        refine gm_geti C (Nat.le_of_ble_eq_true rfl) rfl kc_9 (k := 6) rfl (by decide) rfl wl_120 dX3_follow_57 ?_
        refine gm_icmp_ge C 113 dX3_follow_60 (by decide) (fun c10 => ?_) (fun c10 => ?_)
        · have hf := gm_it _ c10 hf
          cases hf
          exact gm_lvp [0, 1] rfl K
        · have hf := gm_if _ c10 hf
          refine gm_iload_n C dX3_follow_63 rfl 2 rfl ?_
          obtain ⟨S11, hx, hf⟩ := gm_bp1_s hf
          have key : gm_G p l e { frames := 4, cells := 0, slots := 0, locals := 80 } s m args below meth c (MQ below (gm_Q cf ad gm_sC 106 none S') args s 0 0 (gm_A ad 106)) cf ad gm_sC 106 4 S11 107 [(0, .ref (ad 12)), (1, .ref (ad 8)), (2, .int x1), (3, .int y7)] [] := by
            obtain ⟨x12, ex12, hf⟩ := gm_lt_s hf
            refine gm_iinc (v := x12) (lv' := [(3, .int x12), (0, .ref (ad 12)), (1, .ref (ad 8)), (2, .int x1)]) (j := 3) C dX3_follow_107 rfl (by rw [ex12]; rfl) (by decide) rfl ?_
            refine gm_goto C 55 dX3_follow_110 (by decide) ?_
            exact gm_lvp [1, 2, 3, 0] rfl (ih _ _ _ hf K)
          have hf := hx
          refine gm_if_ne C 90 dX3_follow_64 (by decide) (fun c13 => ?_) (fun c13 => ?_)
          · have hf := gm_if _ c13 hf
            refine gm_aload_n C dX3_follow_90 rfl 0 rfl ?_
            refine gm_getr (j := 6) (u := 18) C (Nat.le_of_ble_eq_true rfl) rfl kc_3 (k := 1) rfl (by decide) rfl rfl wl_204 dX3_follow_91 ?_
            refine gm_iload_n C dX3_follow_94 rfl 3 rfl ?_
            refine gm_aload_n C dX3_follow_95 rfl 1 rfl ?_
            refine gm_getr (j := 1) (u := 9) C (Nat.le_of_ble_eq_true rfl) rfl kc_9 (k := 0) rfl (by decide) rfl rfl wl_105 dX3_follow_96 ?_
            refine gm_iload_n C dX3_follow_99 rfl 3 rfl ?_
            obtain ⟨h14, hf⟩ := gm_ck_s hf
            refine gm_iald C (Nat.le_of_ble_eq_true rfl) rfl rfl h14 dX3_follow_100 ?_
            obtain ⟨h15, hf⟩ := gm_ck_s hf
            refine gm_iast C (Nat.le_of_ble_eq_true rfl) rfl rfl h15 dX3_follow_101 ?_
            obtain ⟨S16, eS16, hf⟩ := gm_lt_s hf
            refine gm_topm eS16 ?_
            refine gm_aload_n C dX3_follow_102 rfl 0 rfl ?_
            refine gm_iload_n C dX3_follow_103 rfl 3 rfl ?_
            obtain ⟨S17, eS17, hf⟩ := gm_bp1_s hf
            refine gm_callVv (As := [.int y7]) C (Tb_fillRow_c l cf ad eS17) (Nat.le_of_ble_eq_true rfl) rfl kc_3 wy_Tb_fillRow rfl wl_488 rfl ⟨(Nat.le_of_ble_eq_true rfl), (Nat.le_of_ble_eq_true rfl)⟩ rfl (Nat.le_of_ble_eq_true rfl) dX3_follow_104 ?_
            cases hf
            exact gm_lvp [0, 1, 2, 3] rfl key
          · have hf := gm_it _ c13 hf
            refine gm_iload_n C dX3_follow_67 rfl 3 rfl ?_
            refine gm_aload_n C dX3_follow_68 rfl 0 rfl ?_
            refine gm_geti C (Nat.le_of_ble_eq_true rfl) rfl kc_3 (k := 7) rfl (by decide) rfl wl_210 dX3_follow_69 ?_
            refine gm_icmp_ge C 90 dX3_follow_72 (by decide) (fun c18 => ?_) (fun c18 => ?_)
            · have hf := gm_it _ c18 hf
              refine gm_aload_n C dX3_follow_90 rfl 0 rfl ?_
              refine gm_getr (j := 6) (u := 18) C (Nat.le_of_ble_eq_true rfl) rfl kc_3 (k := 1) rfl (by decide) rfl rfl wl_204 dX3_follow_91 ?_
              refine gm_iload_n C dX3_follow_94 rfl 3 rfl ?_
              refine gm_aload_n C dX3_follow_95 rfl 1 rfl ?_
              refine gm_getr (j := 1) (u := 9) C (Nat.le_of_ble_eq_true rfl) rfl kc_9 (k := 0) rfl (by decide) rfl rfl wl_105 dX3_follow_96 ?_
              refine gm_iload_n C dX3_follow_99 rfl 3 rfl ?_
              obtain ⟨h19, hf⟩ := gm_ck_s hf
              refine gm_iald C (Nat.le_of_ble_eq_true rfl) rfl rfl h19 dX3_follow_100 ?_
              obtain ⟨h20, hf⟩ := gm_ck_s hf
              refine gm_iast C (Nat.le_of_ble_eq_true rfl) rfl rfl h20 dX3_follow_101 ?_
              obtain ⟨S21, eS21, hf⟩ := gm_lt_s hf
              refine gm_topm eS21 ?_
              refine gm_aload_n C dX3_follow_102 rfl 0 rfl ?_
              refine gm_iload_n C dX3_follow_103 rfl 3 rfl ?_
              obtain ⟨S22, eS22, hf⟩ := gm_bp1_s hf
              refine gm_callVv (As := [.int y7]) C (Tb_fillRow_c l cf ad eS22) (Nat.le_of_ble_eq_true rfl) rfl kc_3 wy_Tb_fillRow rfl wl_488 rfl ⟨(Nat.le_of_ble_eq_true rfl), (Nat.le_of_ble_eq_true rfl)⟩ rfl (Nat.le_of_ble_eq_true rfl) dX3_follow_104 ?_
              cases hf
              exact gm_lvp [0, 1, 2, 3] rfl key
            · have hf := gm_if _ c18 hf
              refine gm_aload_n C dX3_follow_75 rfl 0 rfl ?_
              refine gm_getr (j := 6) (u := 18) C (Nat.le_of_ble_eq_true rfl) rfl kc_3 (k := 1) rfl (by decide) rfl rfl wl_204 dX3_follow_76 ?_
              refine gm_iload_n C dX3_follow_79 rfl 3 rfl ?_
              obtain ⟨h23, hf⟩ := gm_ck_s hf
              refine gm_iald C (Nat.le_of_ble_eq_true rfl) rfl rfl h23 dX3_follow_80 ?_
              refine gm_aload_n C dX3_follow_81 rfl 1 rfl ?_
              refine gm_getr (j := 1) (u := 9) C (Nat.le_of_ble_eq_true rfl) rfl kc_9 (k := 0) rfl (by decide) rfl rfl wl_105 dX3_follow_82 ?_
              refine gm_iload_n C dX3_follow_85 rfl 3 rfl ?_
              obtain ⟨h24, hf⟩ := gm_ck_s hf
              refine gm_iald C (Nat.le_of_ble_eq_true rfl) rfl rfl h24 dX3_follow_86 ?_
              refine gm_icmp_eq C 107 dX3_follow_87 (by decide) (fun c25 => ?_) (fun c25 => ?_)
              · have hf := gm_it _ c25 hf
                cases hf
                exact gm_lvp [0, 1, 2, 3] rfl key
              · have hf := gm_if _ c25 hf
                refine gm_aload_n C dX3_follow_90 rfl 0 rfl ?_
                refine gm_getr (j := 6) (u := 18) C (Nat.le_of_ble_eq_true rfl) rfl kc_3 (k := 1) rfl (by decide) rfl rfl wl_204 dX3_follow_91 ?_
                refine gm_iload_n C dX3_follow_94 rfl 3 rfl ?_
                refine gm_aload_n C dX3_follow_95 rfl 1 rfl ?_
                refine gm_getr (j := 1) (u := 9) C (Nat.le_of_ble_eq_true rfl) rfl kc_9 (k := 0) rfl (by decide) rfl rfl wl_105 dX3_follow_96 ?_
                refine gm_iload_n C dX3_follow_99 rfl 3 rfl ?_
                obtain ⟨h26, hf⟩ := gm_ck_s hf
                refine gm_iald C (Nat.le_of_ble_eq_true rfl) rfl rfl h26 dX3_follow_100 ?_
                obtain ⟨h27, hf⟩ := gm_ck_s hf
                refine gm_iast C (Nat.le_of_ble_eq_true rfl) rfl rfl h27 dX3_follow_101 ?_
                obtain ⟨S28, eS28, hf⟩ := gm_lt_s hf
                refine gm_topm eS28 ?_
                refine gm_aload_n C dX3_follow_102 rfl 0 rfl ?_
                refine gm_iload_n C dX3_follow_103 rfl 3 rfl ?_
                obtain ⟨S29, eS29, hf⟩ := gm_bp1_s hf
                refine gm_callVv (As := [.int y7]) C (Tb_fillRow_c l cf ad eS29) (Nat.le_of_ble_eq_true rfl) rfl kc_3 wy_Tb_fillRow rfl wl_488 rfl ⟨(Nat.le_of_ble_eq_true rfl), (Nat.le_of_ble_eq_true rfl)⟩ rfl (Nat.le_of_ble_eq_true rfl) dX3_follow_104 ?_
                cases hf
                exact gm_lvp [0, 1, 2, 3] rfl key
    obtain ⟨S9, hx, hf⟩ := gm_bp1_s hf
    refine gm_lvp [2, 3, 1, 0] rfl (L55 fl _ _ _ hx ?_)
    refine gm_aload_n C dX3_follow_113 rfl 0 rfl ?_
    refine gm_aload_n C dX3_follow_114 rfl 1 rfl ?_
    refine gm_geti C (Nat.le_of_ble_eq_true rfl) rfl kc_9 (k := 6) rfl (by decide) rfl wl_120 dX3_follow_115 ?_
    refine gm_puti C (Nat.le_of_ble_eq_true rfl) rfl kc_3 (k := 7) rfl (by decide) rfl rfl (kc_3.2.2.2.1 7 (by decide)) rfl rfl wl_210 dX3_follow_118 ?_
    obtain ⟨S30, eS30, hf⟩ := gm_lt_s hf
    refine gm_topm eS30 ?_
    refine gm_aload_n C dX3_follow_121 rfl 0 rfl ?_
    refine gm_aload_n C dX3_follow_122 rfl 1 rfl ?_
    refine gm_geti C (Nat.le_of_ble_eq_true rfl) rfl kc_9 (k := 4) rfl (by decide) rfl wl_114 dX3_follow_123 ?_
    refine gm_puti C (Nat.le_of_ble_eq_true rfl) rfl kc_3 (k := 8) rfl (by decide) rfl rfl (kc_3.2.2.2.1 8 (by decide)) rfl rfl wl_211 dX3_follow_126 ?_
    obtain ⟨S31, eS31, hf⟩ := gm_lt_s hf
    refine gm_topm eS31 ?_
    refine gm_aload_n C dX3_follow_129 rfl 0 rfl ?_
    refine gm_iconst (v := 0) C dX3_follow_130 (by decide) ?_
    refine gm_puti C (Nat.le_of_ble_eq_true rfl) rfl kc_3 (k := 9) rfl (by decide) rfl rfl (kc_3.2.2.2.1 9 (by decide)) rfl rfl wl_212 dX3_follow_131 ?_
    obtain ⟨S32, eS32, hf⟩ := gm_lt_s hf
    refine gm_topm eS32 ?_
    refine gm_iconst (v := 0) C dX3_follow_134 (by decide) ?_
    refine gm_istore_n (lv' := [(3, .int 0), (0, .ref (ad 12)), (1, .ref (ad 8))]) C dX3_follow_135 rfl (by decide) rfl ?_
    have L136 : ∀ (n : Nat) (y33 : Int32) (S34 : gm_M) (S35 : gm_M), Tb_follow_L136 fl n y33 S34 = some (S35) → gm_G p l e { frames := 4, cells := 0, slots := 0, locals := 80 } s m args below meth c (MQ below (gm_Q cf ad gm_sC 106 none S') args s 0 0 (gm_A ad 106)) cf ad gm_sC 106 4 S35 180 [] [] → gm_G p l e { frames := 4, cells := 0, slots := 0, locals := 80 } s m args below meth c (MQ below (gm_Q cf ad gm_sC 106 none S') args s 0 0 (gm_A ad 106)) cf ad gm_sC 106 4 S34 136 [(0, .ref (ad 12)), (3, .int y33)] [] := by
      intro n
      induction n with
      | zero => intro y33 S34 S35 hf K; cases (show (none : Option _) = some _ from hf)
      | succ n ih =>
        intro y33 S34 S35 hf K
        have hf : Tb_follow_L136_b fl (Tb_follow_L136 fl n) y33 S34 = some (S35) := hf
        unfold Tb_follow_L136_b at hf
        refine gm_iload_n C dX3_follow_136 rfl 1 rfl ?_
        refine gm_aload_n C dX3_follow_137 rfl 0 rfl ?_
        refine gm_geti C (Nat.le_of_ble_eq_true rfl) rfl kc_3 (k := 6) rfl (by decide) rfl wl_209 dX3_follow_138 ?_
        refine gm_icmp_ge C 180 dX3_follow_141 (by decide) (fun c36 => ?_) (fun c36 => ?_)
        · have hf := gm_it _ c36 hf
          cases hf
          exact gm_lvp [] rfl K
        · have hf := gm_if _ c36 hf
          refine gm_aload_n C dX3_follow_144 rfl 0 rfl ?_
          refine gm_getr (j := 7) (u := 19) C (Nat.le_of_ble_eq_true rfl) rfl kc_3 (k := 2) rfl (by decide) rfl rfl wl_205 dX3_follow_145 ?_
          refine gm_iload_n C dX3_follow_148 rfl 1 rfl ?_
          refine gm_aload_n C dX3_follow_149 rfl 0 rfl ?_
          refine gm_iload_n C dX3_follow_150 rfl 1 rfl ?_
          refine gm_iconst (v := (-1)) C dX3_follow_151 (by decide) ?_
          obtain ⟨v37, ev37, hf⟩ := gm_bp1_s hf
          refine gm_callVl (As := [.int y33, .int (-1)]) C (Tb_joinedWord_c l cf ad ev37) (Nat.le_of_ble_eq_true rfl) rfl kc_3 wy_Tb_joinedWord rfl wl_528 rfl ⟨(Nat.le_of_ble_eq_true rfl), (Nat.le_of_ble_eq_true rfl)⟩ rfl (Nat.le_of_ble_eq_true rfl) dX3_follow_152 ?_
          obtain ⟨h38, hf⟩ := gm_ck_s hf
          refine gm_last C (Nat.le_of_ble_eq_true rfl) rfl rfl h38 dX3_follow_155 ?_
          obtain ⟨S39, eS39, hf⟩ := gm_lt_s hf
          refine gm_topm eS39 ?_
          refine gm_aload_n C dX3_follow_156 rfl 0 rfl ?_
          refine gm_dup C dX3_follow_157 rfl ?_
          refine gm_geti C (Nat.le_of_ble_eq_true rfl) rfl kc_3 (k := 9) rfl (by decide) rfl wl_212 dX3_follow_158 ?_
          refine gm_aload_n C dX3_follow_161 rfl 0 rfl ?_
          refine gm_getr (j := 7) (u := 19) C (Nat.le_of_ble_eq_true rfl) rfl kc_3 (k := 2) rfl (by decide) rfl rfl wl_205 dX3_follow_162 ?_
          refine gm_iload_n C dX3_follow_165 rfl 1 rfl ?_
          obtain ⟨h40, hf⟩ := gm_ck_s hf
          refine gm_lald C (Nat.le_of_ble_eq_true rfl) rfl rfl h40 dX3_follow_166 ?_
          obtain ⟨v41, ev41, hf⟩ := gm_bp1_s hf
          refine gm_callSi (As := [.long (S39.2 19 y33.toNatClampNeg)]) C (Lg_bitCount_c l cf ad ev41 (S := S39)) wy_Lg_bitCount wl_533 rfl ⟨(Nat.le_of_ble_eq_true rfl), (Nat.le_of_ble_eq_true rfl)⟩ rfl (Nat.le_of_ble_eq_true rfl) dX3_follow_167 ?_
          refine gm_iadd C dX3_follow_170 ?_
          refine gm_puti C (Nat.le_of_ble_eq_true rfl) rfl kc_3 (k := 9) rfl (by decide) rfl rfl (kc_3.2.2.2.1 9 (by decide)) rfl rfl wl_212 dX3_follow_171 ?_
          obtain ⟨S42, eS42, hf⟩ := gm_lt_s hf
          refine gm_topm eS42 ?_
          obtain ⟨x43, ex43, hf⟩ := gm_lt_s hf
          refine gm_iinc (v := x43) (lv' := [(3, .int x43), (0, .ref (ad 12))]) (j := 1) C dX3_follow_174 rfl (by rw [ex43]; rfl) (by decide) rfl ?_
          refine gm_goto C 136 dX3_follow_177 (by decide) ?_
          exact gm_lvp [1, 0] rfl (ih _ _ _ hf K)
    obtain ⟨S35, hx, hf⟩ := gm_bp1_s hf
    refine gm_lvp [1, 0] rfl (L136 fl _ _ _ hx ?_)
    exact gm_vret C hr dX3_follow_180 hf
  have hf := hx
  refine gm_icmp_eq C 15 dX3_follow_8 (by decide) (fun c44 => ?_) (fun c44 => ?_)
  · have hf := gm_it _ c44 hf
    refine gm_iconst (v := 0) C dX3_follow_15 (by decide) ?_
    cases hf
    exact gm_lvp [0, 1] rfl key
  · have hf := gm_if _ c44 hf
    refine gm_iconst (v := 1) C dX3_follow_11 (by decide) ?_
    refine gm_goto C 16 dX3_follow_12 (by decide) ?_
    cases hf
    exact gm_lvp [0, 1] rfl key
theorem dX1_addRules_0 : decode cX1_addRules 0 = .ok (.iconst 0, 1) := by decide +kernel
theorem dX1_addRules_1 : decode cX1_addRules 1 = .ok (.istore_n 3, 1) := by decide +kernel
theorem dX1_addRules_2 : decode cX1_addRules 2 = .ok (.iload_n 3, 1) := by decide +kernel
theorem dX1_addRules_3 : decode cX1_addRules 3 = .ok (.iload_n 1, 1) := by decide +kernel
theorem dX1_addRules_4 : decode cX1_addRules 4 = .ok (.iload_n 2, 1) := by decide +kernel
theorem dX1_addRules_5 : decode cX1_addRules 5 = .ok (.invokestatic 52, 3) := by decide +kernel
theorem dX1_addRules_8 : decode cX1_addRules 8 = .ok (.if_icmp .gt 46, 3) := by decide +kernel
theorem dX1_addRules_11 : decode cX1_addRules 11 = .ok (.aload_n 0, 1) := by decide +kernel
theorem dX1_addRules_12 : decode cX1_addRules 12 = .ok (.getfield 34, 3) := by decide +kernel
theorem dX1_addRules_15 : decode cX1_addRules 15 = .ok (.aload_n 0, 1) := by decide +kernel
theorem dX1_addRules_16 : decode cX1_addRules 16 = .ok (.getfield 11, 3) := by decide +kernel
theorem dX1_addRules_19 : decode cX1_addRules 19 = .ok (.arraylength, 1) := by decide +kernel
theorem dX1_addRules_20 : decode cX1_addRules 20 = .ok (.if_icmp .ge 28, 3) := by decide +kernel
theorem dX1_addRules_23 : decode cX1_addRules 23 = .ok (.aload_n 0, 1) := by decide +kernel
theorem dX1_addRules_24 : decode cX1_addRules 24 = .ok (.getfield 11, 3) := by decide +kernel
theorem dX1_addRules_27 : decode cX1_addRules 27 = .ok (.aload_n 0, 1) := by decide +kernel
theorem dX1_addRules_28 : decode cX1_addRules 28 = .ok (.getfield 34, 3) := by decide +kernel
theorem dX1_addRules_31 : decode cX1_addRules 31 = .ok (.iload_n 1, 1) := by decide +kernel
theorem dX1_addRules_32 : decode cX1_addRules 32 = .ok (.iload_n 2, 1) := by decide +kernel
theorem dX1_addRules_33 : decode cX1_addRules 33 = .ok (.iload_n 3, 1) := by decide +kernel
theorem dX1_addRules_34 : decode cX1_addRules 34 = .ok (.invokestatic 56, 3) := by decide +kernel
theorem dX1_addRules_37 : decode cX1_addRules 37 = .ok (.iastore, 1) := by decide +kernel
theorem dX1_addRules_38 : decode cX1_addRules 38 = .ok (.aload_n 0, 1) := by decide +kernel
theorem dX1_addRules_39 : decode cX1_addRules 39 = .ok (.dup, 1) := by decide +kernel
theorem dX1_addRules_40 : decode cX1_addRules 40 = .ok (.getfield 34, 3) := by decide +kernel
theorem dX1_addRules_43 : decode cX1_addRules 43 = .ok (.iconst 1, 1) := by decide +kernel
theorem dX1_addRules_44 : decode cX1_addRules 44 = .ok (.iadd, 1) := by decide +kernel
theorem dX1_addRules_45 : decode cX1_addRules 45 = .ok (.putfield 34, 3) := by decide +kernel
theorem dX1_addRules_48 : decode cX1_addRules 48 = .ok (.iinc 3 1, 3) := by decide +kernel
theorem dX1_addRules_51 : decode cX1_addRules 51 = .ok (.goto (-49), 3) := by decide +kernel
theorem dX1_addRules_54 : decode cX1_addRules 54 = .ok (.return_, 1) := by decide +kernel
def Gs_addRules_L2_b (a0 : Int32) (a1 : Int32) (rec : Int32 → gm_M → Option (gm_M)) (y1 : Int32) (S2 : gm_M) : Option (gm_M) :=
  gm_bp1 (Ru_greatestB a0 a1) fun v4 =>
  if v4 < y1 then (
    some (S2)
  ) else (
    gm_bp1 (show Option (gm_M) from
      if (171 : Int32) ≤ S2.1 88 2 then (
        some (S2)
      ) else (
        gm_bp1 (Ru_code a0 a1 y1) fun v9 =>
        gm_ck (S2.1 88 2) 171 <|
        gm_lt (α := gm_M) (gm_ui S2 89 ((S2.1 88 2).toNatClampNeg) v9) fun S11 =>
        gm_lt (α := gm_M) (gm_ui S11 88 2 ((S11.1 88 2) + 1)) fun S12 =>
        some (S12)
      )
    ) fun S6 =>
    gm_lt (α := Int32) (y1 + 1) fun x7 =>
    rec x7 S6
  )
def Gs_addRules_L2 (a0 : Int32) (a1 : Int32) : Nat → Int32 → gm_M → Option (gm_M)
  | 0 => fun _ _ => none
  | n + 1 => Gs_addRules_L2_b a0 a1 (Gs_addRules_L2 a0 a1 n)
def Gs_addRules (fl : Nat) (a0 : Int32) (a1 : Int32) (S : gm_M) : Option gm_M :=
  gm_bp1 (Gs_addRules_L2 a0 a1 fl 0 S) fun S3 =>
  some S3
set_option maxHeartbeats 4000000 in
set_option maxRecDepth 100000 in
theorem Gs_addRules_c (l : Launch) (cf : gm_C) (ad : Nat → Nat) {fl : Nat}   {a0 : Int32} {a1 : Int32} {S : gm_M}  {S'  : gm_M} (hf : Gs_addRules fl a0 a1 S = some S') : gm_Met l yX1_addRules cX1_addRules 4 none 1 22 cf ad gm_sC 106 [.ref (ad 88), .int a0, .int a1] S none S' := by
  refine gm_met (by decide +kernel) (Nat.le_of_ble_eq_true rfl) ?_
  intro p e s m args below meth c C hr
  have C : gm_F p s m args meth c cf ad 106 cX1_addRules 4 RX1 := C
  refine gm_lve (lv' := [(0, .ref (ad 88)), (1, .int a0), (2, .int a1)]) rfl ?_
  unfold Gs_addRules at hf
  refine gm_iconst (v := 0) C dX1_addRules_0 (by decide) ?_
  refine gm_istore_n (lv' := [(3, .int 0), (0, .ref (ad 88)), (1, .int a0), (2, .int a1)]) C dX1_addRules_1 rfl (by decide) rfl ?_
  have L2 : ∀ (n : Nat) (y1 : Int32) (S2 : gm_M) (S3 : gm_M), Gs_addRules_L2 a0 a1 n y1 S2 = some (S3) → gm_G p l e { frames := 1, cells := 0, slots := 0, locals := 22 } s m args below meth c (MQ below (gm_Q cf ad gm_sC 106 none S') args s 0 0 (gm_A ad 106)) cf ad gm_sC 106 4 S3 54 [] [] → gm_G p l e { frames := 1, cells := 0, slots := 0, locals := 22 } s m args below meth c (MQ below (gm_Q cf ad gm_sC 106 none S') args s 0 0 (gm_A ad 106)) cf ad gm_sC 106 4 S2 2 [(0, .ref (ad 88)), (1, .int a0), (2, .int a1), (3, .int y1)] [] := by
    intro n
    induction n with
    | zero => intro y1 S2 S3 hf K; cases (show (none : Option _) = some _ from hf)
    | succ n ih =>
      intro y1 S2 S3 hf K
      have hf : Gs_addRules_L2_b a0 a1 (Gs_addRules_L2 a0 a1 n) y1 S2 = some (S3) := hf
      unfold Gs_addRules_L2_b at hf
      refine gm_iload_n C dX1_addRules_2 rfl 3 rfl ?_
      refine gm_iload_n C dX1_addRules_3 rfl 1 rfl ?_
      refine gm_iload_n C dX1_addRules_4 rfl 2 rfl ?_
      obtain ⟨v4, ev4, hf⟩ := gm_bp1_s hf
      refine gm_callSi (As := [.int a0, .int a1]) C (Ru_greatestB_c l cf ad ev4 (S := S2)) wy_Ru_greatestB wl_549 rfl ⟨(Nat.le_of_ble_eq_true rfl), (Nat.le_of_ble_eq_true rfl)⟩ rfl (Nat.le_of_ble_eq_true rfl) dX1_addRules_5 ?_
      refine gm_icmp_gt C 54 dX1_addRules_8 (by decide) (fun c5 => ?_) (fun c5 => ?_)
      · have hf := gm_it _ c5 hf
        cases hf
        exact gm_lvp [] rfl K
      · have hf := gm_if _ c5 hf
        refine gm_aload_n C dX1_addRules_11 rfl 0 rfl ?_
        refine gm_geti C (Nat.le_of_ble_eq_true rfl) rfl kc_1 (k := 2) rfl (by decide) rfl wl_266 dX1_addRules_12 ?_
        refine gm_aload_n C dX1_addRules_15 rfl 0 rfl ?_
        refine gm_getr (j := 1) (u := 89) C (Nat.le_of_ble_eq_true rfl) rfl kc_1 (k := 0) rfl (by decide) rfl rfl wl_263 dX1_addRules_16 ?_
        refine gm_alen (v := 171) C (Nat.le_of_ble_eq_true rfl) rfl rfl (by decide) dX1_addRules_19 ?_
        obtain ⟨S6, hx, hf⟩ := gm_bp1_s hf
        have key : gm_G p l e { frames := 1, cells := 0, slots := 0, locals := 22 } s m args below meth c (MQ below (gm_Q cf ad gm_sC 106 none S') args s 0 0 (gm_A ad 106)) cf ad gm_sC 106 4 S6 48 [(0, .ref (ad 88)), (1, .int a0), (2, .int a1), (3, .int y1)] [] := by
          obtain ⟨x7, ex7, hf⟩ := gm_lt_s hf
          refine gm_iinc (v := x7) (lv' := [(3, .int x7), (0, .ref (ad 88)), (1, .int a0), (2, .int a1)]) (j := 3) C dX1_addRules_48 rfl (by rw [ex7]; rfl) (by decide) rfl ?_
          refine gm_goto C 2 dX1_addRules_51 (by decide) ?_
          exact gm_lvp [1, 2, 3, 0] rfl (ih _ _ _ hf K)
        have hf := hx
        refine gm_icmp_ge C 48 dX1_addRules_20 (by decide) (fun c8 => ?_) (fun c8 => ?_)
        · have hf := gm_it _ c8 hf
          cases hf
          exact gm_lvp [0, 1, 2, 3] rfl key
        · have hf := gm_if _ c8 hf
          refine gm_aload_n C dX1_addRules_23 rfl 0 rfl ?_
          refine gm_getr (j := 1) (u := 89) C (Nat.le_of_ble_eq_true rfl) rfl kc_1 (k := 0) rfl (by decide) rfl rfl wl_263 dX1_addRules_24 ?_
          refine gm_aload_n C dX1_addRules_27 rfl 0 rfl ?_
          refine gm_geti C (Nat.le_of_ble_eq_true rfl) rfl kc_1 (k := 2) rfl (by decide) rfl wl_266 dX1_addRules_28 ?_
          refine gm_iload_n C dX1_addRules_31 rfl 1 rfl ?_
          refine gm_iload_n C dX1_addRules_32 rfl 2 rfl ?_
          refine gm_iload_n C dX1_addRules_33 rfl 3 rfl ?_
          obtain ⟨v9, ev9, hf⟩ := gm_bp1_s hf
          refine gm_callSi (As := [.int a0, .int a1, .int y1]) C (Ru_code_c l cf ad ev9 (S := S2)) wy_Ru_code wl_550 rfl ⟨(Nat.le_of_ble_eq_true rfl), (Nat.le_of_ble_eq_true rfl)⟩ rfl (Nat.le_of_ble_eq_true rfl) dX1_addRules_34 ?_
          obtain ⟨h10, hf⟩ := gm_ck_s hf
          refine gm_iast C (Nat.le_of_ble_eq_true rfl) rfl rfl h10 dX1_addRules_37 ?_
          obtain ⟨S11, eS11, hf⟩ := gm_lt_s hf
          refine gm_topm eS11 ?_
          refine gm_aload_n C dX1_addRules_38 rfl 0 rfl ?_
          refine gm_dup C dX1_addRules_39 rfl ?_
          refine gm_geti C (Nat.le_of_ble_eq_true rfl) rfl kc_1 (k := 2) rfl (by decide) rfl wl_266 dX1_addRules_40 ?_
          refine gm_iconst (v := 1) C dX1_addRules_43 (by decide) ?_
          refine gm_iadd C dX1_addRules_44 ?_
          refine gm_puti C (Nat.le_of_ble_eq_true rfl) rfl kc_1 (k := 2) rfl (by decide) rfl rfl (kc_1.2.2.2.1 2 (by decide)) rfl rfl wl_266 dX1_addRules_45 ?_
          obtain ⟨S12, eS12, hf⟩ := gm_lt_s hf
          refine gm_topm eS12 ?_
          cases hf
          exact gm_lvp [0, 1, 2, 3] rfl key
  obtain ⟨S3, hx, hf⟩ := gm_bp1_s hf
  refine gm_lvp [1, 2, 3, 0] rfl (L2 fl _ _ _ hx ?_)
  exact gm_vret C hr dX1_addRules_54 hf
theorem dX1_forget_0 : decode cX1_forget 0 = .ok (.aload_n 0, 1) := by decide +kernel
theorem dX1_forget_1 : decode cX1_forget 1 = .ok (.iload_n 1, 1) := by decide +kernel
theorem dX1_forget_2 : decode cX1_forget 2 = .ok (.putfield 28, 3) := by decide +kernel
theorem dX1_forget_5 : decode cX1_forget 5 = .ok (.aload_n 0, 1) := by decide +kernel
theorem dX1_forget_6 : decode cX1_forget 6 = .ok (.iconst 0, 1) := by decide +kernel
theorem dX1_forget_7 : decode cX1_forget 7 = .ok (.putfield 31, 3) := by decide +kernel
theorem dX1_forget_10 : decode cX1_forget 10 = .ok (.aload_n 0, 1) := by decide +kernel
theorem dX1_forget_11 : decode cX1_forget 11 = .ok (.iconst 0, 1) := by decide +kernel
theorem dX1_forget_12 : decode cX1_forget 12 = .ok (.putfield 34, 3) := by decide +kernel
theorem dX1_forget_15 : decode cX1_forget 15 = .ok (.aload_n 0, 1) := by decide +kernel
theorem dX1_forget_16 : decode cX1_forget 16 = .ok (.iconst 0, 1) := by decide +kernel
theorem dX1_forget_17 : decode cX1_forget 17 = .ok (.putfield 37, 3) := by decide +kernel
theorem dX1_forget_20 : decode cX1_forget 20 = .ok (.aload_n 0, 1) := by decide +kernel
theorem dX1_forget_21 : decode cX1_forget 21 = .ok (.getfield 28, 3) := by decide +kernel
theorem dX1_forget_24 : decode cX1_forget 24 = .ok (.ifCond .ne 4, 3) := by decide +kernel
theorem dX1_forget_27 : decode cX1_forget 27 = .ok (.return_, 1) := by decide +kernel
theorem dX1_forget_28 : decode cX1_forget 28 = .ok (.iconst 0, 1) := by decide +kernel
theorem dX1_forget_29 : decode cX1_forget 29 = .ok (.istore_n 2, 1) := by decide +kernel
theorem dX1_forget_30 : decode cX1_forget 30 = .ok (.iload_n 2, 1) := by decide +kernel
theorem dX1_forget_31 : decode cX1_forget 31 = .ok (.iconst 5, 1) := by decide +kernel
theorem dX1_forget_32 : decode cX1_forget 32 = .ok (.if_icmp .ge 34, 3) := by decide +kernel
theorem dX1_forget_35 : decode cX1_forget 35 = .ok (.iload_n 2, 1) := by decide +kernel
theorem dX1_forget_36 : decode cX1_forget 36 = .ok (.invokestatic 41, 3) := by decide +kernel
theorem dX1_forget_39 : decode cX1_forget 39 = .ok (.istore_n 3, 1) := by decide +kernel
theorem dX1_forget_40 : decode cX1_forget 40 = .ok (.iload_n 3, 1) := by decide +kernel
theorem dX1_forget_41 : decode cX1_forget 41 = .ok (.iload_n 2, 1) := by decide +kernel
theorem dX1_forget_42 : decode cX1_forget 42 = .ok (.invokestatic 45, 3) := by decide +kernel
theorem dX1_forget_45 : decode cX1_forget 45 = .ok (.if_icmp .gt 15, 3) := by decide +kernel
theorem dX1_forget_48 : decode cX1_forget 48 = .ok (.aload_n 0, 1) := by decide +kernel
theorem dX1_forget_49 : decode cX1_forget 49 = .ok (.iload_n 2, 1) := by decide +kernel
theorem dX1_forget_50 : decode cX1_forget 50 = .ok (.iload_n 3, 1) := by decide +kernel
theorem dX1_forget_51 : decode cX1_forget 51 = .ok (.invokevirtual 48, 3) := by decide +kernel
theorem dX1_forget_54 : decode cX1_forget 54 = .ok (.iinc 3 1, 3) := by decide +kernel
theorem dX1_forget_57 : decode cX1_forget 57 = .ok (.goto (-17), 3) := by decide +kernel
theorem dX1_forget_60 : decode cX1_forget 60 = .ok (.iinc 2 1, 3) := by decide +kernel
theorem dX1_forget_63 : decode cX1_forget 63 = .ok (.goto (-33), 3) := by decide +kernel
theorem dX1_forget_66 : decode cX1_forget 66 = .ok (.return_, 1) := by decide +kernel
def Gs_forget_L40_b (fl : Nat) (y6 : Int32) (rec : Int32 → gm_M → Option (gm_M)) (y11 : Int32) (S12 : gm_M) : Option (gm_M) :=
  gm_bp1 (Ru_greatestA y6) fun v14 =>
  if v14 < y11 then (
    some (S12)
  ) else (
    gm_bp1 (Gs_addRules fl y6 y11 S12) fun S16 =>
    gm_lt (α := Int32) (y11 + 1) fun x17 =>
    rec x17 S16
  )
def Gs_forget_L40 (fl : Nat) (y6 : Int32) : Nat → Int32 → gm_M → Option (gm_M)
  | 0 => fun _ _ => none
  | n + 1 => Gs_forget_L40_b fl y6 (Gs_forget_L40 fl y6 n)
def Gs_forget_L30_b (fl : Nat) (rec : Int32 → gm_M → Option (gm_M)) (y6 : Int32) (S7 : gm_M) : Option (gm_M) :=
  if (5 : Int32) ≤ y6 then (
    some (S7)
  ) else (
    gm_bp1 (Ru_leastA y6) fun v10 =>
    gm_bp1 (Gs_forget_L40 fl y6 fl v10 S7) fun S13 =>
    gm_lt (α := Int32) (y6 + 1) fun x18 =>
    rec x18 S13
  )
def Gs_forget_L30 (fl : Nat) : Nat → Int32 → gm_M → Option (gm_M)
  | 0 => fun _ _ => none
  | n + 1 => Gs_forget_L30_b fl (Gs_forget_L30 fl n)
def Gs_forget (fl : Nat) (a0 : Int32) (S : gm_M) : Option gm_M :=
  gm_lt (α := gm_M) (gm_ui S 88 4 a0) fun S1 =>
  gm_lt (α := gm_M) (gm_ui S1 88 3 0) fun S2 =>
  gm_lt (α := gm_M) (gm_ui S2 88 2 0) fun S3 =>
  gm_lt (α := gm_M) (gm_ui S3 88 6 0) fun S4 =>
  if S4.1 88 4 = 0 then (
    some S4
  ) else (
    gm_bp1 (Gs_forget_L30 fl fl 0 S4) fun S8 =>
    some S8
  )
set_option maxHeartbeats 4000000 in
set_option maxRecDepth 100000 in
theorem Gs_forget_c (l : Launch) (cf : gm_C) (ad : Nat → Nat) {fl : Nat}   {a0 : Int32} {S : gm_M}  {S'  : gm_M} (hf : Gs_forget fl a0 S = some S') : gm_Met l yX1_forget cX1_forget 4 none 2 45 cf ad gm_sC 106 [.ref (ad 88), .int a0] S none S' := by
  refine gm_met (by decide +kernel) (Nat.le_of_ble_eq_true rfl) ?_
  intro p e s m args below meth c C hr
  have C : gm_F p s m args meth c cf ad 106 cX1_forget 4 RX1 := C
  refine gm_lve (lv' := [(0, .ref (ad 88)), (1, .int a0)]) rfl ?_
  unfold Gs_forget at hf
  refine gm_aload_n C dX1_forget_0 rfl 0 rfl ?_
  refine gm_iload_n C dX1_forget_1 rfl 1 rfl ?_
  refine gm_puti C (Nat.le_of_ble_eq_true rfl) rfl kc_1 (k := 4) rfl (by decide) rfl rfl (kc_1.2.2.2.1 4 (by decide)) rfl rfl wl_270 dX1_forget_2 ?_
  obtain ⟨S1, eS1, hf⟩ := gm_lt_s hf
  refine gm_topm eS1 ?_
  refine gm_aload_n C dX1_forget_5 rfl 0 rfl ?_
  refine gm_iconst (v := 0) C dX1_forget_6 (by decide) ?_
  refine gm_puti C (Nat.le_of_ble_eq_true rfl) rfl kc_1 (k := 3) rfl (by decide) rfl rfl (kc_1.2.2.2.1 3 (by decide)) rfl rfl wl_268 dX1_forget_7 ?_
  obtain ⟨S2, eS2, hf⟩ := gm_lt_s hf
  refine gm_topm eS2 ?_
  refine gm_aload_n C dX1_forget_10 rfl 0 rfl ?_
  refine gm_iconst (v := 0) C dX1_forget_11 (by decide) ?_
  refine gm_puti C (Nat.le_of_ble_eq_true rfl) rfl kc_1 (k := 2) rfl (by decide) rfl rfl (kc_1.2.2.2.1 2 (by decide)) rfl rfl wl_266 dX1_forget_12 ?_
  obtain ⟨S3, eS3, hf⟩ := gm_lt_s hf
  refine gm_topm eS3 ?_
  refine gm_aload_n C dX1_forget_15 rfl 0 rfl ?_
  refine gm_iconst (v := 0) C dX1_forget_16 (by decide) ?_
  refine gm_puti C (Nat.le_of_ble_eq_true rfl) rfl kc_1 (k := 6) rfl (by decide) rfl rfl (kc_1.2.2.2.1 6 (by decide)) rfl rfl wl_272 dX1_forget_17 ?_
  obtain ⟨S4, eS4, hf⟩ := gm_lt_s hf
  refine gm_topm eS4 ?_
  refine gm_aload_n C dX1_forget_20 rfl 0 rfl ?_
  refine gm_geti C (Nat.le_of_ble_eq_true rfl) rfl kc_1 (k := 4) rfl (by decide) rfl wl_270 dX1_forget_21 ?_
  refine gm_if_ne C 28 dX1_forget_24 (by decide) (fun c5 => ?_) (fun c5 => ?_)
  · have hf := gm_if _ c5 hf
    refine gm_iconst (v := 0) C dX1_forget_28 (by decide) ?_
    refine gm_istore_n (lv' := [(2, .int 0), (0, .ref (ad 88)), (1, .int a0)]) C dX1_forget_29 rfl (by decide) rfl ?_
    have L30 : ∀ (n : Nat) (y6 : Int32) (S7 : gm_M) (S8 : gm_M), Gs_forget_L30 fl n y6 S7 = some (S8) → gm_G p l e { frames := 2, cells := 0, slots := 0, locals := 45 } s m args below meth c (MQ below (gm_Q cf ad gm_sC 106 none S') args s 0 0 (gm_A ad 106)) cf ad gm_sC 106 4 S8 66 [] [] → gm_G p l e { frames := 2, cells := 0, slots := 0, locals := 45 } s m args below meth c (MQ below (gm_Q cf ad gm_sC 106 none S') args s 0 0 (gm_A ad 106)) cf ad gm_sC 106 4 S7 30 [(0, .ref (ad 88)), (2, .int y6)] [] := by
      intro n
      induction n with
      | zero => intro y6 S7 S8 hf K; cases (show (none : Option _) = some _ from hf)
      | succ n ih =>
        intro y6 S7 S8 hf K
        have hf : Gs_forget_L30_b fl (Gs_forget_L30 fl n) y6 S7 = some (S8) := hf
        unfold Gs_forget_L30_b at hf
        refine gm_iload_n C dX1_forget_30 rfl 1 rfl ?_
        refine gm_iconst (v := 5) C dX1_forget_31 (by decide) ?_
        refine gm_icmp_ge C 66 dX1_forget_32 (by decide) (fun c9 => ?_) (fun c9 => ?_)
        · have hf := gm_it _ c9 hf
          cases hf
          exact gm_lvp [] rfl K
        · have hf := gm_if _ c9 hf
          refine gm_iload_n C dX1_forget_35 rfl 1 rfl ?_
          obtain ⟨v10, ev10, hf⟩ := gm_bp1_s hf
          refine gm_callSi (As := [.int y6]) C (Ru_leastA_c l cf ad ev10 (S := S7)) wy_Ru_leastA wl_543 rfl ⟨(Nat.le_of_ble_eq_true rfl), (Nat.le_of_ble_eq_true rfl)⟩ rfl (Nat.le_of_ble_eq_true rfl) dX1_forget_36 ?_
          refine gm_istore_n (lv' := [(3, .int v10), (0, .ref (ad 88)), (2, .int y6)]) C dX1_forget_39 rfl (by decide) rfl ?_
          have L40 : ∀ (n : Nat) (y11 : Int32) (S12 : gm_M) (S13 : gm_M), Gs_forget_L40 fl y6 n y11 S12 = some (S13) → gm_G p l e { frames := 2, cells := 0, slots := 0, locals := 45 } s m args below meth c (MQ below (gm_Q cf ad gm_sC 106 none S') args s 0 0 (gm_A ad 106)) cf ad gm_sC 106 4 S13 60 [(0, .ref (ad 88)), (2, .int y6)] [] → gm_G p l e { frames := 2, cells := 0, slots := 0, locals := 45 } s m args below meth c (MQ below (gm_Q cf ad gm_sC 106 none S') args s 0 0 (gm_A ad 106)) cf ad gm_sC 106 4 S12 40 [(0, .ref (ad 88)), (2, .int y6), (3, .int y11)] [] := by
            intro n
            induction n with
            | zero => intro y11 S12 S13 hf K; cases (show (none : Option _) = some _ from hf)
            | succ n ih =>
              intro y11 S12 S13 hf K
              have hf : Gs_forget_L40_b fl y6 (Gs_forget_L40 fl y6 n) y11 S12 = some (S13) := hf
              unfold Gs_forget_L40_b at hf
              refine gm_iload_n C dX1_forget_40 rfl 2 rfl ?_
              refine gm_iload_n C dX1_forget_41 rfl 1 rfl ?_
              obtain ⟨v14, ev14, hf⟩ := gm_bp1_s hf
              refine gm_callSi (As := [.int y6]) C (Ru_greatestA_c l cf ad ev14 (S := S12)) wy_Ru_greatestA wl_544 rfl ⟨(Nat.le_of_ble_eq_true rfl), (Nat.le_of_ble_eq_true rfl)⟩ rfl (Nat.le_of_ble_eq_true rfl) dX1_forget_42 ?_
              refine gm_icmp_gt C 60 dX1_forget_45 (by decide) (fun c15 => ?_) (fun c15 => ?_)
              · have hf := gm_it _ c15 hf
                cases hf
                exact gm_lvp [0, 1] rfl K
              · have hf := gm_if _ c15 hf
                refine gm_aload_n C dX1_forget_48 rfl 0 rfl ?_
                refine gm_iload_n C dX1_forget_49 rfl 1 rfl ?_
                refine gm_iload_n C dX1_forget_50 rfl 2 rfl ?_
                obtain ⟨S16, eS16, hf⟩ := gm_bp1_s hf
                refine gm_callVv (As := [.int y6, .int y11]) C (Gs_addRules_c l cf ad eS16) (Nat.le_of_ble_eq_true rfl) rfl kc_1 wy_Gs_addRules rfl wl_545 rfl ⟨(Nat.le_of_ble_eq_true rfl), (Nat.le_of_ble_eq_true rfl)⟩ rfl (Nat.le_of_ble_eq_true rfl) dX1_forget_51 ?_
                obtain ⟨x17, ex17, hf⟩ := gm_lt_s hf
                refine gm_iinc (v := x17) (lv' := [(3, .int x17), (0, .ref (ad 88)), (2, .int y6)]) (j := 2) C dX1_forget_54 rfl (by rw [ex17]; rfl) (by decide) rfl ?_
                refine gm_goto C 40 dX1_forget_57 (by decide) ?_
                exact gm_lvp [1, 2, 0] rfl (ih _ _ _ hf K)
          obtain ⟨S13, hx, hf⟩ := gm_bp1_s hf
          refine gm_lvp [1, 2, 0] rfl (L40 fl _ _ _ hx ?_)
          obtain ⟨x18, ex18, hf⟩ := gm_lt_s hf
          refine gm_iinc (v := x18) (lv' := [(2, .int x18), (0, .ref (ad 88))]) (j := 1) C dX1_forget_60 rfl (by rw [ex18]; rfl) (by decide) rfl ?_
          refine gm_goto C 30 dX1_forget_63 (by decide) ?_
          exact gm_lvp [1, 0] rfl (ih _ _ _ hf K)
    obtain ⟨S8, hx, hf⟩ := gm_bp1_s hf
    refine gm_lvp [1, 0] rfl (L30 fl _ _ _ hx ?_)
    exact gm_vret C hr dX1_forget_66 hf
  · have hf := gm_it _ c5 hf
    exact gm_vret C hr dX1_forget_27 hf
