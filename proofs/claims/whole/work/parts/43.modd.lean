theorem dX11_tram_0 : decode cX11_tram 0 = .ok (.aload_n 0, 1) := by decide +kernel
theorem dX11_tram_1 : decode cX11_tram 1 = .ok (.iconst (-1), 1) := by decide +kernel
theorem dX11_tram_2 : decode cX11_tram 2 = .ok (.putfield 19, 3) := by decide +kernel
theorem dX11_tram_5 : decode cX11_tram 5 = .ok (.aload_n 0, 1) := by decide +kernel
theorem dX11_tram_6 : decode cX11_tram 6 = .ok (.iconst 0, 1) := by decide +kernel
theorem dX11_tram_7 : decode cX11_tram 7 = .ok (.putfield 101, 3) := by decide +kernel
theorem dX11_tram_10 : decode cX11_tram 10 = .ok (.aload_n 0, 1) := by decide +kernel
theorem dX11_tram_11 : decode cX11_tram 11 = .ok (.iconst 0, 1) := by decide +kernel
theorem dX11_tram_12 : decode cX11_tram 12 = .ok (.putfield 126, 3) := by decide +kernel
theorem dX11_tram_15 : decode cX11_tram 15 = .ok (.aload_n 0, 1) := by decide +kernel
theorem dX11_tram_16 : decode cX11_tram 16 = .ok (.iconst 0, 1) := by decide +kernel
theorem dX11_tram_17 : decode cX11_tram 17 = .ok (.putfield 129, 3) := by decide +kernel
theorem dX11_tram_20 : decode cX11_tram 20 = .ok (.aload_n 0, 1) := by decide +kernel
theorem dX11_tram_21 : decode cX11_tram 21 = .ok (.iconst 0, 1) := by decide +kernel
theorem dX11_tram_22 : decode cX11_tram 22 = .ok (.putfield 132, 3) := by decide +kernel
theorem dX11_tram_25 : decode cX11_tram 25 = .ok (.aload_n 0, 1) := by decide +kernel
theorem dX11_tram_26 : decode cX11_tram 26 = .ok (.iconst 0, 1) := by decide +kernel
theorem dX11_tram_27 : decode cX11_tram 27 = .ok (.putfield 136, 3) := by decide +kernel
theorem dX11_tram_30 : decode cX11_tram 30 = .ok (.aload_n 0, 1) := by decide +kernel
theorem dX11_tram_31 : decode cX11_tram 31 = .ok (.iconst 0, 1) := by decide +kernel
theorem dX11_tram_32 : decode cX11_tram 32 = .ok (.putfield 139, 3) := by decide +kernel
theorem dX11_tram_35 : decode cX11_tram 35 = .ok (.aload_n 0, 1) := by decide +kernel
theorem dX11_tram_36 : decode cX11_tram 36 = .ok (.iconst 0, 1) := by decide +kernel
theorem dX11_tram_37 : decode cX11_tram 37 = .ok (.putfield 150, 3) := by decide +kernel
theorem dX11_tram_40 : decode cX11_tram 40 = .ok (.aload_n 0, 1) := by decide +kernel
theorem dX11_tram_41 : decode cX11_tram 41 = .ok (.iconst 0, 1) := by decide +kernel
theorem dX11_tram_42 : decode cX11_tram 42 = .ok (.putfield 153, 3) := by decide +kernel
theorem dX11_tram_45 : decode cX11_tram 45 = .ok (.iconst 0, 1) := by decide +kernel
theorem dX11_tram_46 : decode cX11_tram 46 = .ok (.istore_n 1, 1) := by decide +kernel
theorem dX11_tram_47 : decode cX11_tram 47 = .ok (.iload_n 1, 1) := by decide +kernel
theorem dX11_tram_48 : decode cX11_tram 48 = .ok (.ifCond .ne 18, 3) := by decide +kernel
theorem dX11_tram_51 : decode cX11_tram 51 = .ok (.aload_n 0, 1) := by decide +kernel
theorem dX11_tram_52 : decode cX11_tram 52 = .ok (.invokevirtual 104, 3) := by decide +kernel
theorem dX11_tram_55 : decode cX11_tram 55 = .ok (.ifCond .lt 11, 3) := by decide +kernel
theorem dX11_tram_58 : decode cX11_tram 58 = .ok (.aload_n 0, 1) := by decide +kernel
theorem dX11_tram_59 : decode cX11_tram 59 = .ok (.invokevirtual 179, 3) := by decide +kernel
theorem dX11_tram_62 : decode cX11_tram 62 = .ok (.istore_n 1, 1) := by decide +kernel
theorem dX11_tram_63 : decode cX11_tram 63 = .ok (.goto (-16), 3) := by decide +kernel
theorem dX11_tram_66 : decode cX11_tram 66 = .ok (.aload_n 0, 1) := by decide +kernel
theorem dX11_tram_67 : decode cX11_tram 67 = .ok (.iconst 0, 1) := by decide +kernel
theorem dX11_tram_68 : decode cX11_tram 68 = .ok (.putfield 97, 3) := by decide +kernel
theorem dX11_tram_71 : decode cX11_tram 71 = .ok (.iload_n 1, 1) := by decide +kernel
theorem dX11_tram_72 : decode cX11_tram 72 = .ok (.ifCond .le 8, 3) := by decide +kernel
theorem dX11_tram_75 : decode cX11_tram 75 = .ok (.bipush (-10), 2) := by decide +kernel
theorem dX11_tram_77 : decode cX11_tram 77 = .ok (.iload_n 1, 1) := by decide +kernel
theorem dX11_tram_78 : decode cX11_tram 78 = .ok (.isub, 1) := by decide +kernel
theorem dX11_tram_79 : decode cX11_tram 79 = .ok (.ireturn, 1) := by decide +kernel
theorem dX11_tram_80 : decode cX11_tram 80 = .ok (.aload_n 0, 1) := by decide +kernel
theorem dX11_tram_81 : decode cX11_tram 81 = .ok (.invokevirtual 182, 3) := by decide +kernel
theorem dX11_tram_84 : decode cX11_tram 84 = .ok (.aload_n 0, 1) := by decide +kernel
theorem dX11_tram_85 : decode cX11_tram 85 = .ok (.iconst 0, 1) := by decide +kernel
theorem dX11_tram_86 : decode cX11_tram 86 = .ok (.putfield 185, 3) := by decide +kernel
theorem dX11_tram_89 : decode cX11_tram 89 = .ok (.aload_n 0, 1) := by decide +kernel
theorem dX11_tram_90 : decode cX11_tram 90 = .ok (.iconst 0, 1) := by decide +kernel
theorem dX11_tram_91 : decode cX11_tram 91 = .ok (.putfield 188, 3) := by decide +kernel
theorem dX11_tram_94 : decode cX11_tram 94 = .ok (.aload_n 0, 1) := by decide +kernel
theorem dX11_tram_95 : decode cX11_tram 95 = .ok (.iconst 0, 1) := by decide +kernel
theorem dX11_tram_96 : decode cX11_tram 96 = .ok (.putfield 191, 3) := by decide +kernel
theorem dX11_tram_99 : decode cX11_tram 99 = .ok (.aload_n 0, 1) := by decide +kernel
theorem dX11_tram_100 : decode cX11_tram 100 = .ok (.getfield 60, 3) := by decide +kernel
theorem dX11_tram_103 : decode cX11_tram 103 = .ok (.iconst 0, 1) := by decide +kernel
theorem dX11_tram_104 : decode cX11_tram 104 = .ok (.iconst 0, 1) := by decide +kernel
theorem dX11_tram_105 : decode cX11_tram 105 = .ok (.bastore, 1) := by decide +kernel
theorem dX11_tram_106 : decode cX11_tram 106 = .ok (.aload_n 0, 1) := by decide +kernel
theorem dX11_tram_107 : decode cX11_tram 107 = .ok (.getfield 60, 3) := by decide +kernel
theorem dX11_tram_110 : decode cX11_tram 110 = .ok (.iconst 1, 1) := by decide +kernel
theorem dX11_tram_111 : decode cX11_tram 111 = .ok (.iconst 0, 1) := by decide +kernel
theorem dX11_tram_112 : decode cX11_tram 112 = .ok (.bastore, 1) := by decide +kernel
theorem dX11_tram_113 : decode cX11_tram 113 = .ok (.aload_n 0, 1) := by decide +kernel
theorem dX11_tram_114 : decode cX11_tram 114 = .ok (.getfield 76, 3) := by decide +kernel
theorem dX11_tram_117 : decode cX11_tram 117 = .ok (.ireturn, 1) := by decide +kernel
def Mo_tram_L47_b (fl : Nat) (rec : Int32 → gm_M → Option (Int32 × gm_M)) (y10 : Int32) (S11 : gm_M) : Option (Int32 × gm_M) :=
  if y10 = 0 then (
    gm_bp2 (Mo_here fl S11) fun v15 S16 =>
    if v15 < 0 then (
      some (y10, S16)
    ) else (
      gm_bp2 (Mo_takeClause fl S16) fun v18 S19 =>
      rec v18 S19
    )
  ) else (
    some (y10, S11)
  )
def Mo_tram_L47 (fl : Nat) : Nat → Int32 → gm_M → Option (Int32 × gm_M)
  | 0 => fun _ _ => none
  | n + 1 => Mo_tram_L47_b fl (Mo_tram_L47 fl n)
def Mo_tram (fl : Nat) (S : gm_M) : Option (Int32 × gm_M) :=
  gm_lt (α := gm_M) (gm_ui S 0 10 (-1)) fun S1 =>
  gm_lt (α := gm_M) (gm_ui S1 0 11 0) fun S2 =>
  gm_lt (α := gm_M) (gm_ui S2 0 14 0) fun S3 =>
  gm_lt (α := gm_M) (gm_ui S3 0 15 0) fun S4 =>
  gm_lt (α := gm_M) (gm_ui S4 0 16 0) fun S5 =>
  gm_lt (α := gm_M) (gm_ui S5 0 17 0) fun S6 =>
  gm_lt (α := gm_M) (gm_ui S6 0 18 0) fun S7 =>
  gm_lt (α := gm_M) (gm_ui S7 0 22 0) fun S8 =>
  gm_lt (α := gm_M) (gm_ui S8 0 25 0) fun S9 =>
  gm_bp2 (Mo_tram_L47 fl fl 0 S9) fun z12 S13 =>
  gm_lt (α := gm_M) (gm_ui S13 0 9 0) fun S20 =>
  if z12 ≤ 0 then (
    gm_bp1 (Mo_takeRead fl S20) fun S22 =>
    gm_lt (α := gm_M) (gm_ui S22 0 29 0) fun S23 =>
    gm_lt (α := gm_M) (gm_ui S23 0 32 0) fun S24 =>
    gm_lt (α := gm_M) (gm_ui S24 0 27 0) fun S25 =>
    gm_ck (0) 2 <|
    gm_lt (α := gm_M) (gm_ui S25 16 ((0 : Int32).toNatClampNeg) (vp_nar .boolean 0)) fun S27 =>
    gm_ck (1) 2 <|
    gm_lt (α := gm_M) (gm_ui S27 16 ((1 : Int32).toNatClampNeg) (vp_nar .boolean 0)) fun S29 =>
    some (S29.1 0 4, S29)
  ) else (
    some ((-10) - z12, S20)
  )
set_option maxHeartbeats 4000000 in
set_option maxRecDepth 100000 in
theorem Mo_tram_c (l : Launch) (cf : gm_C) (ad : Nat → Nat) {fl : Nat}    {S : gm_M} {r : Int32} {S'  : gm_M} (hf : Mo_tram fl S = some (r, S')) : gm_Met l yX11_tram cX11_tram 2 (some .int) 6 140 cf ad gm_sM 17 [.ref (ad 0)] S (some (.int r)) S' := by
  refine gm_met (by decide +kernel) (Nat.le_of_ble_eq_true rfl) ?_
  intro p e s m args below meth c C hr
  have C : gm_F p s m args meth c cf ad 17 cX11_tram 2 RX11 := C
  refine gm_lve (lv' := [(0, .ref (ad 0))]) rfl ?_
  unfold Mo_tram at hf
  refine gm_aload_n C dX11_tram_0 rfl 0 rfl ?_
  refine gm_iconst (v := (-1)) C dX11_tram_1 (by decide) ?_
  refine gm_puti C (Nat.le_of_ble_eq_true rfl) rfl kc_11 (k := 10) rfl (by decide) rfl rfl (kc_11.2.2.2.1 10 (by decide)) rfl rfl wl_850 dX11_tram_2 ?_
  obtain ⟨S1, eS1, hf⟩ := gm_lt_s hf
  refine gm_topm eS1 ?_
  refine gm_aload_n C dX11_tram_5 rfl 0 rfl ?_
  refine gm_iconst (v := 0) C dX11_tram_6 (by decide) ?_
  refine gm_puti C (Nat.le_of_ble_eq_true rfl) rfl kc_11 (k := 11) rfl (by decide) rfl rfl (kc_11.2.2.2.1 11 (by decide)) rfl rfl wl_851 dX11_tram_7 ?_
  obtain ⟨S2, eS2, hf⟩ := gm_lt_s hf
  refine gm_topm eS2 ?_
  refine gm_aload_n C dX11_tram_10 rfl 0 rfl ?_
  refine gm_iconst (v := 0) C dX11_tram_11 (by decide) ?_
  refine gm_puti C (Nat.le_of_ble_eq_true rfl) rfl kc_11 (k := 14) rfl (by decide) rfl rfl (kc_11.2.2.2.1 14 (by decide)) rfl rfl wl_854 dX11_tram_12 ?_
  obtain ⟨S3, eS3, hf⟩ := gm_lt_s hf
  refine gm_topm eS3 ?_
  refine gm_aload_n C dX11_tram_15 rfl 0 rfl ?_
  refine gm_iconst (v := 0) C dX11_tram_16 (by decide) ?_
  refine gm_puti C (Nat.le_of_ble_eq_true rfl) rfl kc_11 (k := 15) rfl (by decide) rfl rfl (kc_11.2.2.2.1 15 (by decide)) rfl rfl wl_855 dX11_tram_17 ?_
  obtain ⟨S4, eS4, hf⟩ := gm_lt_s hf
  refine gm_topm eS4 ?_
  refine gm_aload_n C dX11_tram_20 rfl 0 rfl ?_
  refine gm_iconst (v := 0) C dX11_tram_21 (by decide) ?_
  refine gm_puti C (Nat.le_of_ble_eq_true rfl) rfl kc_11 (k := 16) rfl (by decide) rfl rfl (kc_11.2.2.2.1 16 (by decide)) rfl rfl wl_856 dX11_tram_22 ?_
  obtain ⟨S5, eS5, hf⟩ := gm_lt_s hf
  refine gm_topm eS5 ?_
  refine gm_aload_n C dX11_tram_25 rfl 0 rfl ?_
  refine gm_iconst (v := 0) C dX11_tram_26 (by decide) ?_
  refine gm_puti C (Nat.le_of_ble_eq_true rfl) rfl kc_11 (k := 17) rfl (by decide) rfl rfl (kc_11.2.2.2.1 17 (by decide)) rfl rfl wl_857 dX11_tram_27 ?_
  obtain ⟨S6, eS6, hf⟩ := gm_lt_s hf
  refine gm_topm eS6 ?_
  refine gm_aload_n C dX11_tram_30 rfl 0 rfl ?_
  refine gm_iconst (v := 0) C dX11_tram_31 (by decide) ?_
  refine gm_puti C (Nat.le_of_ble_eq_true rfl) rfl kc_11 (k := 18) rfl (by decide) rfl rfl (kc_11.2.2.2.1 18 (by decide)) rfl rfl wl_858 dX11_tram_32 ?_
  obtain ⟨S7, eS7, hf⟩ := gm_lt_s hf
  refine gm_topm eS7 ?_
  refine gm_aload_n C dX11_tram_35 rfl 0 rfl ?_
  refine gm_iconst (v := 0) C dX11_tram_36 (by decide) ?_
  refine gm_puti C (Nat.le_of_ble_eq_true rfl) rfl kc_11 (k := 22) rfl (by decide) rfl rfl (kc_11.2.2.2.1 22 (by decide)) rfl rfl wl_862 dX11_tram_37 ?_
  obtain ⟨S8, eS8, hf⟩ := gm_lt_s hf
  refine gm_topm eS8 ?_
  refine gm_aload_n C dX11_tram_40 rfl 0 rfl ?_
  refine gm_iconst (v := 0) C dX11_tram_41 (by decide) ?_
  refine gm_puti C (Nat.le_of_ble_eq_true rfl) rfl kc_11 (k := 25) rfl (by decide) rfl rfl (kc_11.2.2.2.1 25 (by decide)) rfl rfl wl_865 dX11_tram_42 ?_
  obtain ⟨S9, eS9, hf⟩ := gm_lt_s hf
  refine gm_topm eS9 ?_
  refine gm_iconst (v := 0) C dX11_tram_45 (by decide) ?_
  refine gm_istore_n (lv' := [(1, .int 0), (0, .ref (ad 0))]) C dX11_tram_46 rfl (by decide) rfl ?_
  have L47 : ∀ (n : Nat) (y10 : Int32) (S11 : gm_M) (z12 : Int32) (S13 : gm_M), Mo_tram_L47 fl n y10 S11 = some (z12, S13) → gm_G p l e { frames := 6, cells := 0, slots := 0, locals := 140 } s m args below meth c (MQ below (gm_Q cf ad gm_sM 17 (some (.int r)) S') args s 0 0 (gm_A ad 17)) cf ad gm_sM 17 2 S13 66 [(0, .ref (ad 0)), (1, .int z12)] [] → gm_G p l e { frames := 6, cells := 0, slots := 0, locals := 140 } s m args below meth c (MQ below (gm_Q cf ad gm_sM 17 (some (.int r)) S') args s 0 0 (gm_A ad 17)) cf ad gm_sM 17 2 S11 47 [(0, .ref (ad 0)), (1, .int y10)] [] := by
    intro n
    induction n with
    | zero => intro y10 S11 z12 S13 hf K; cases (show (none : Option _) = some _ from hf)
    | succ n ih =>
      intro y10 S11 z12 S13 hf K
      have hf : Mo_tram_L47_b fl (Mo_tram_L47 fl n) y10 S11 = some (z12, S13) := hf
      unfold Mo_tram_L47_b at hf
      refine gm_iload_n C dX11_tram_47 rfl 1 rfl ?_
      refine gm_if_ne C 66 dX11_tram_48 (by decide) (fun c14 => ?_) (fun c14 => ?_)
      · have hf := gm_if _ c14 hf
        cases hf
        exact gm_lvp [0, 1] rfl K
      · have hf := gm_it _ c14 hf
        refine gm_aload_n C dX11_tram_51 rfl 0 rfl ?_
        obtain ⟨v15, S16, eS16, hf⟩ := gm_bp2_s hf
        refine gm_callVi (As := []) C (Mo_here_c l cf ad eS16) (Nat.le_of_ble_eq_true rfl) rfl kc_11 wy_Mo_here rfl wl_966 rfl ⟨(Nat.le_of_ble_eq_true rfl), (Nat.le_of_ble_eq_true rfl)⟩ rfl (Nat.le_of_ble_eq_true rfl) dX11_tram_52 ?_
        refine gm_if_lt C 66 dX11_tram_55 (by decide) (fun c17 => ?_) (fun c17 => ?_)
        · have hf := gm_it _ c17 hf
          cases hf
          exact gm_lvp [0, 1] rfl K
        · have hf := gm_if _ c17 hf
          refine gm_aload_n C dX11_tram_58 rfl 0 rfl ?_
          obtain ⟨v18, S19, eS19, hf⟩ := gm_bp2_s hf
          refine gm_callVi (As := []) C (Mo_takeClause_c l cf ad eS19) (Nat.le_of_ble_eq_true rfl) rfl kc_11 wy_Mo_takeClause rfl wl_970 rfl ⟨(Nat.le_of_ble_eq_true rfl), (Nat.le_of_ble_eq_true rfl)⟩ rfl (Nat.le_of_ble_eq_true rfl) dX11_tram_59 ?_
          refine gm_istore_n (lv' := [(1, .int v18), (0, .ref (ad 0))]) C dX11_tram_62 rfl (by decide) rfl ?_
          refine gm_goto C 47 dX11_tram_63 (by decide) ?_
          exact gm_lvp [1, 0] rfl (ih _ _ _ _ hf K)
  obtain ⟨z12, S13, hx, hf⟩ := gm_bp2_s hf
  refine gm_lvp [1, 0] rfl (L47 fl _ _ _ _ hx ?_)
  refine gm_aload_n C dX11_tram_66 rfl 0 rfl ?_
  refine gm_iconst (v := 0) C dX11_tram_67 (by decide) ?_
  refine gm_puti C (Nat.le_of_ble_eq_true rfl) rfl kc_11 (k := 9) rfl (by decide) rfl rfl (kc_11.2.2.2.1 9 (by decide)) rfl rfl wl_849 dX11_tram_68 ?_
  obtain ⟨S20, eS20, hf⟩ := gm_lt_s hf
  refine gm_topm eS20 ?_
  refine gm_iload_n C dX11_tram_71 rfl 1 rfl ?_
  refine gm_if_le C 80 dX11_tram_72 (by decide) (fun c21 => ?_) (fun c21 => ?_)
  · have hf := gm_it _ c21 hf
    refine gm_aload_n C dX11_tram_80 rfl 0 rfl ?_
    obtain ⟨S22, eS22, hf⟩ := gm_bp1_s hf
    refine gm_callVv (As := []) C (Mo_takeRead_c l cf ad eS22) (Nat.le_of_ble_eq_true rfl) rfl kc_11 wy_Mo_takeRead rfl wl_1026 rfl ⟨(Nat.le_of_ble_eq_true rfl), (Nat.le_of_ble_eq_true rfl)⟩ rfl (Nat.le_of_ble_eq_true rfl) dX11_tram_81 ?_
    refine gm_aload_n C dX11_tram_84 rfl 0 rfl ?_
    refine gm_iconst (v := 0) C dX11_tram_85 (by decide) ?_
    refine gm_puti C (Nat.le_of_ble_eq_true rfl) rfl kc_11 (k := 29) rfl (by decide) rfl rfl (kc_11.2.2.2.1 29 (by decide)) rfl rfl wl_869 dX11_tram_86 ?_
    obtain ⟨S23, eS23, hf⟩ := gm_lt_s hf
    refine gm_topm eS23 ?_
    refine gm_aload_n C dX11_tram_89 rfl 0 rfl ?_
    refine gm_iconst (v := 0) C dX11_tram_90 (by decide) ?_
    refine gm_puti C (Nat.le_of_ble_eq_true rfl) rfl kc_11 (k := 32) rfl (by decide) rfl rfl (kc_11.2.2.2.1 32 (by decide)) rfl rfl wl_872 dX11_tram_91 ?_
    obtain ⟨S24, eS24, hf⟩ := gm_lt_s hf
    refine gm_topm eS24 ?_
    refine gm_aload_n C dX11_tram_94 rfl 0 rfl ?_
    refine gm_iconst (v := 0) C dX11_tram_95 (by decide) ?_
    refine gm_puti C (Nat.le_of_ble_eq_true rfl) rfl kc_11 (k := 27) rfl (by decide) rfl rfl (kc_11.2.2.2.1 27 (by decide)) rfl rfl wl_867 dX11_tram_96 ?_
    obtain ⟨S25, eS25, hf⟩ := gm_lt_s hf
    refine gm_topm eS25 ?_
    refine gm_aload_n C dX11_tram_99 rfl 0 rfl ?_
    refine gm_getr (j := 16) (u := 16) C (Nat.le_of_ble_eq_true rfl) rfl kc_11 (k := 36) rfl (by decide) rfl rfl wl_876 dX11_tram_100 ?_
    refine gm_iconst (v := 0) C dX11_tram_103 (by decide) ?_
    refine gm_iconst (v := 0) C dX11_tram_104 (by decide) ?_
    obtain ⟨h26, hf⟩ := gm_ck_s hf
    refine gm_zast C (Nat.le_of_ble_eq_true rfl) rfl rfl h26 dX11_tram_105 ?_
    obtain ⟨S27, eS27, hf⟩ := gm_lt_s hf
    refine gm_topm eS27 ?_
    refine gm_aload_n C dX11_tram_106 rfl 0 rfl ?_
    refine gm_getr (j := 16) (u := 16) C (Nat.le_of_ble_eq_true rfl) rfl kc_11 (k := 36) rfl (by decide) rfl rfl wl_876 dX11_tram_107 ?_
    refine gm_iconst (v := 1) C dX11_tram_110 (by decide) ?_
    refine gm_iconst (v := 0) C dX11_tram_111 (by decide) ?_
    obtain ⟨h28, hf⟩ := gm_ck_s hf
    refine gm_zast C (Nat.le_of_ble_eq_true rfl) rfl rfl h28 dX11_tram_112 ?_
    obtain ⟨S29, eS29, hf⟩ := gm_lt_s hf
    refine gm_topm eS29 ?_
    refine gm_aload_n C dX11_tram_113 rfl 0 rfl ?_
    refine gm_geti C (Nat.le_of_ble_eq_true rfl) rfl kc_11 (k := 4) rfl (by decide) rfl wl_844 dX11_tram_114 ?_
    exact gm_iret C hr rfl dX11_tram_117 hf
  · have hf := gm_if _ c21 hf
    refine gm_bipush (v := (-10)) C dX11_tram_75 (by decide) ?_
    refine gm_iload_n C dX11_tram_77 rfl 1 rfl ?_
    refine gm_isub C dX11_tram_78 ?_
    exact gm_iret C hr rfl dX11_tram_79 hf
theorem dX11_fault_0 : decode cX11_fault 0 = .ok (.aload_n 0, 1) := by decide +kernel
theorem dX11_fault_1 : decode cX11_fault 1 = .ok (.getfield 19, 3) := by decide +kernel
theorem dX11_fault_4 : decode cX11_fault 4 = .ok (.ireturn, 1) := by decide +kernel
def Mo_fault (S : gm_M) : Option Int32 :=
  some (S.1 0 10)
set_option maxHeartbeats 4000000 in
set_option maxRecDepth 100000 in
theorem Mo_fault_c (l : Launch) (cf : gm_C) (ad : Nat → Nat)     {S : gm_M} {r : Int32}  (hf : Mo_fault S = some r) : gm_Met l yX11_fault cX11_fault 1 (some .int) 0 0 cf ad gm_sM 17 [.ref (ad 0)] S (some (.int r)) S := by
  refine gm_met (by decide +kernel) (Nat.le_of_ble_eq_true rfl) ?_
  intro p e s m args below meth c C hr
  have C : gm_F p s m args meth c cf ad 17 cX11_fault 1 RX11 := C
  refine gm_lve (lv' := [(0, .ref (ad 0))]) rfl ?_
  unfold Mo_fault at hf
  refine gm_aload_n C dX11_fault_0 rfl 0 rfl ?_
  refine gm_geti C (Nat.le_of_ble_eq_true rfl) rfl kc_11 (k := 10) rfl (by decide) rfl wl_850 dX11_fault_1 ?_
  exact gm_iretK C hr rfl dX11_fault_4 hf
theorem dX11_figureOf_0 : decode cX11_figureOf 0 = .ok (.iload_n 1, 1) := by decide +kernel
theorem dX11_figureOf_1 : decode cX11_figureOf 1 = .ok (.istore_n 3, 1) := by decide +kernel
theorem dX11_figureOf_2 : decode cX11_figureOf 2 = .ok (.aload_n 0, 1) := by decide +kernel
theorem dX11_figureOf_3 : decode cX11_figureOf 3 = .ok (.getfield 63, 3) := by decide +kernel
theorem dX11_figureOf_6 : decode cX11_figureOf 6 = .ok (.iconst 1, 1) := by decide +kernel
theorem dX11_figureOf_7 : decode cX11_figureOf 7 = .ok (.isub, 1) := by decide +kernel
theorem dX11_figureOf_8 : decode cX11_figureOf 8 = .ok (.istore 4, 2) := by decide +kernel
theorem dX11_figureOf_10 : decode cX11_figureOf 10 = .ok (.iload 4, 2) := by decide +kernel
theorem dX11_figureOf_12 : decode cX11_figureOf 12 = .ok (.iload_n 2, 1) := by decide +kernel
theorem dX11_figureOf_13 : decode cX11_figureOf 13 = .ok (.if_icmp .le 14, 3) := by decide +kernel
theorem dX11_figureOf_16 : decode cX11_figureOf 16 = .ok (.iload_n 3, 1) := by decide +kernel
theorem dX11_figureOf_17 : decode cX11_figureOf 17 = .ok (.bipush 10, 2) := by decide +kernel
theorem dX11_figureOf_19 : decode cX11_figureOf 19 = .ok (.idiv, 1) := by decide +kernel
theorem dX11_figureOf_20 : decode cX11_figureOf 20 = .ok (.istore_n 3, 1) := by decide +kernel
theorem dX11_figureOf_21 : decode cX11_figureOf 21 = .ok (.iinc 4 (-1), 3) := by decide +kernel
theorem dX11_figureOf_24 : decode cX11_figureOf 24 = .ok (.goto (-14), 3) := by decide +kernel
theorem dX11_figureOf_27 : decode cX11_figureOf 27 = .ok (.iload_n 3, 1) := by decide +kernel
theorem dX11_figureOf_28 : decode cX11_figureOf 28 = .ok (.bipush 10, 2) := by decide +kernel
theorem dX11_figureOf_30 : decode cX11_figureOf 30 = .ok (.irem, 1) := by decide +kernel
theorem dX11_figureOf_31 : decode cX11_figureOf 31 = .ok (.ireturn, 1) := by decide +kernel
def Mo_figureOf_L10_b (a1 : Int32) (rec : Int32 → Int32 → Option (Int32)) (y2 : Int32) (y3 : Int32) : Option (Int32) :=
  if y3 ≤ a1 then (
    some (y2)
  ) else (
    gm_lt (α := Int32) (y2 / 10) fun x6 =>
    gm_lt (α := Int32) (y3 + (-1)) fun x7 =>
    rec x6 x7
  )
def Mo_figureOf_L10 (a1 : Int32) : Nat → Int32 → Int32 → Option (Int32)
  | 0 => fun _ _ => none
  | n + 1 => Mo_figureOf_L10_b a1 (Mo_figureOf_L10 a1 n)
def Mo_figureOf (fl : Nat) (a0 : Int32) (a1 : Int32) (S : gm_M) : Option Int32 :=
  gm_lt (α := Int32) ((S.1 0 0) - 1) fun x1 =>
  gm_bp1 (Mo_figureOf_L10 a1 fl a0 x1) fun z4 =>
  some (gm_rm z4 10)
set_option maxHeartbeats 4000000 in
set_option maxRecDepth 100000 in
theorem Mo_figureOf_c (l : Launch) (cf : gm_C) (ad : Nat → Nat) {fl : Nat}   {a0 : Int32} {a1 : Int32} {S : gm_M} {r : Int32}  (hf : Mo_figureOf fl a0 a1 S = some r) : gm_Met l yX11_figureOf cX11_figureOf 5 (some .int) 0 0 cf ad gm_sM 17 [.ref (ad 0), .int a0, .int a1] S (some (.int r)) S := by
  refine gm_met (by decide +kernel) (Nat.le_of_ble_eq_true rfl) ?_
  intro p e s m args below meth c C hr
  have C : gm_F p s m args meth c cf ad 17 cX11_figureOf 5 RX11 := C
  refine gm_lve (lv' := [(0, .ref (ad 0)), (1, .int a0), (2, .int a1)]) rfl ?_
  unfold Mo_figureOf at hf
  refine gm_iload_n C dX11_figureOf_0 rfl 1 rfl ?_
  refine gm_istore_n (lv' := [(3, .int a0), (0, .ref (ad 0)), (1, .int a0), (2, .int a1)]) C dX11_figureOf_1 rfl (by decide) rfl ?_
  refine gm_aload_n C dX11_figureOf_2 rfl 1 rfl ?_
  refine gm_geti C (Nat.le_of_ble_eq_true rfl) rfl kc_11 (k := 0) rfl (by decide) rfl wl_840 dX11_figureOf_3 ?_
  refine gm_iconst (v := 1) C dX11_figureOf_6 (by decide) ?_
  refine gm_isub C dX11_figureOf_7 ?_
  obtain ⟨x1, ex1, hf⟩ := gm_lt_s hf
  refine gm_topi ex1 ?_
  refine gm_istore (lv' := [(4, .int x1), (3, .int a0), (0, .ref (ad 0)), (1, .int a0), (2, .int a1)]) C dX11_figureOf_8 (by decide) rfl ?_
  have L10 : ∀ (n : Nat) (y2 : Int32) (y3 : Int32) (z4 : Int32), Mo_figureOf_L10 a1 n y2 y3 = some (z4) → gm_G p l e { frames := 0, cells := 0, slots := 0, locals := 0 } s m args below meth c (MQ below (gm_Q cf ad gm_sM 17 (some (.int r)) S) args s 0 0 (gm_A ad 17)) cf ad gm_sM 17 5 S 27 [(3, .int z4)] [] → gm_G p l e { frames := 0, cells := 0, slots := 0, locals := 0 } s m args below meth c (MQ below (gm_Q cf ad gm_sM 17 (some (.int r)) S) args s 0 0 (gm_A ad 17)) cf ad gm_sM 17 5 S 10 [(2, .int a1), (3, .int y2), (4, .int y3)] [] := by
    intro n
    induction n with
    | zero => intro y2 y3 z4 hf K; cases (show (none : Option _) = some _ from hf)
    | succ n ih =>
      intro y2 y3 z4 hf K
      have hf : Mo_figureOf_L10_b a1 (Mo_figureOf_L10 a1 n) y2 y3 = some (z4) := hf
      unfold Mo_figureOf_L10_b at hf
      refine gm_iload C dX11_figureOf_10 2 rfl ?_
      refine gm_iload_n C dX11_figureOf_12 rfl 0 rfl ?_
      refine gm_icmp_le C 27 dX11_figureOf_13 (by decide) (fun c5 => ?_) (fun c5 => ?_)
      · have hf := gm_it _ c5 hf
        cases hf
        exact gm_lvp [1] rfl K
      · have hf := gm_if _ c5 hf
        refine gm_iload_n C dX11_figureOf_16 rfl 1 rfl ?_
        refine gm_bipush (v := 10) C dX11_figureOf_17 (by decide) ?_
        refine gm_idiv C dX11_figureOf_19 (by decide) ?_
        obtain ⟨x6, ex6, hf⟩ := gm_lt_s hf
        refine gm_topi ex6 ?_
        refine gm_istore_n (lv' := [(3, .int x6), (2, .int a1), (4, .int y3)]) C dX11_figureOf_20 rfl (by decide) rfl ?_
        obtain ⟨x7, ex7, hf⟩ := gm_lt_s hf
        refine gm_iinc (v := x7) (lv' := [(4, .int x7), (3, .int x6), (2, .int a1)]) (j := 2) C dX11_figureOf_21 rfl (by rw [ex7]; rfl) (by decide) rfl ?_
        refine gm_goto C 10 dX11_figureOf_24 (by decide) ?_
        exact gm_lvp [2, 1, 0] rfl (ih _ _ _ hf K)
  obtain ⟨z4, hx, hf⟩ := gm_bp1_s hf
  refine gm_lvp [4, 1, 0] rfl (L10 fl _ _ _ hx ?_)
  refine gm_iload_n C dX11_figureOf_27 rfl 0 rfl ?_
  refine gm_bipush (v := 10) C dX11_figureOf_28 (by decide) ?_
  refine gm_irem C dX11_figureOf_30 (by decide) ?_
  exact gm_iretK C hr rfl dX11_figureOf_31 hf
theorem dX11_halves_0 : decode cX11_halves 0 = .ok (.iconst 0, 1) := by decide +kernel
theorem dX11_halves_1 : decode cX11_halves 1 = .ok (.istore_n 3, 1) := by decide +kernel
theorem dX11_halves_2 : decode cX11_halves 2 = .ok (.iconst 0, 1) := by decide +kernel
theorem dX11_halves_3 : decode cX11_halves 3 = .ok (.istore 4, 2) := by decide +kernel
theorem dX11_halves_5 : decode cX11_halves 5 = .ok (.iload 4, 2) := by decide +kernel
theorem dX11_halves_7 : decode cX11_halves 7 = .ok (.aload_n 0, 1) := by decide +kernel
theorem dX11_halves_8 : decode cX11_halves 8 = .ok (.getfield 63, 3) := by decide +kernel
theorem dX11_halves_11 : decode cX11_halves 11 = .ok (.iconst 2, 1) := by decide +kernel
theorem dX11_halves_12 : decode cX11_halves 12 = .ok (.idiv, 1) := by decide +kernel
theorem dX11_halves_13 : decode cX11_halves 13 = .ok (.if_icmp .ge 34, 3) := by decide +kernel
theorem dX11_halves_16 : decode cX11_halves 16 = .ok (.iload_n 3, 1) := by decide +kernel
theorem dX11_halves_17 : decode cX11_halves 17 = .ok (.aload_n 0, 1) := by decide +kernel
theorem dX11_halves_18 : decode cX11_halves 18 = .ok (.iload_n 1, 1) := by decide +kernel
theorem dX11_halves_19 : decode cX11_halves 19 = .ok (.iload 4, 2) := by decide +kernel
theorem dX11_halves_21 : decode cX11_halves 21 = .ok (.invokevirtual 194, 3) := by decide +kernel
theorem dX11_halves_24 : decode cX11_halves 24 = .ok (.aload_n 0, 1) := by decide +kernel
theorem dX11_halves_25 : decode cX11_halves 25 = .ok (.iload_n 1, 1) := by decide +kernel
theorem dX11_halves_26 : decode cX11_halves 26 = .ok (.aload_n 0, 1) := by decide +kernel
theorem dX11_halves_27 : decode cX11_halves 27 = .ok (.getfield 63, 3) := by decide +kernel
theorem dX11_halves_30 : decode cX11_halves 30 = .ok (.iconst 1, 1) := by decide +kernel
theorem dX11_halves_31 : decode cX11_halves 31 = .ok (.isub, 1) := by decide +kernel
theorem dX11_halves_32 : decode cX11_halves 32 = .ok (.iload 4, 2) := by decide +kernel
theorem dX11_halves_34 : decode cX11_halves 34 = .ok (.isub, 1) := by decide +kernel
theorem dX11_halves_35 : decode cX11_halves 35 = .ok (.invokevirtual 194, 3) := by decide +kernel
theorem dX11_halves_38 : decode cX11_halves 38 = .ok (.isub, 1) := by decide +kernel
theorem dX11_halves_39 : decode cX11_halves 39 = .ok (.iadd, 1) := by decide +kernel
theorem dX11_halves_40 : decode cX11_halves 40 = .ok (.istore_n 3, 1) := by decide +kernel
theorem dX11_halves_41 : decode cX11_halves 41 = .ok (.iinc 4 1, 3) := by decide +kernel
theorem dX11_halves_44 : decode cX11_halves 44 = .ok (.goto (-39), 3) := by decide +kernel
theorem dX11_halves_47 : decode cX11_halves 47 = .ok (.iload_n 3, 1) := by decide +kernel
theorem dX11_halves_48 : decode cX11_halves 48 = .ok (.i2l, 1) := by decide +kernel
theorem dX11_halves_49 : decode cX11_halves 49 = .ok (.iload_n 2, 1) := by decide +kernel
theorem dX11_halves_50 : decode cX11_halves 50 = .ok (.ineg, 1) := by decide +kernel
theorem dX11_halves_51 : decode cX11_halves 51 = .ok (.i2l, 1) := by decide +kernel
theorem dX11_halves_52 : decode cX11_halves 52 = .ok (.iload_n 2, 1) := by decide +kernel
theorem dX11_halves_53 : decode cX11_halves 53 = .ok (.i2l, 1) := by decide +kernel
theorem dX11_halves_54 : decode cX11_halves 54 = .ok (.invokestatic 69, 3) := by decide +kernel
theorem dX11_halves_57 : decode cX11_halves 57 = .ok (.ireturn, 1) := by decide +kernel
def Mo_halves_L5_b (fl : Nat) (a0 : Int32) (S : gm_M) (rec : Int32 → Int32 → Option (Int32)) (y1 : Int32) (y2 : Int32) : Option (Int32) :=
  if (S.1 0 0) / 2 ≤ y2 then (
    some (y1)
  ) else (
    gm_bp1 (Mo_figureOf fl a0 y2 S) fun v5 =>
    gm_bp1 (Mo_figureOf fl a0 (((S.1 0 0) - 1) - y2) S) fun v6 =>
    gm_lt (α := Int32) (y1 + (v5 - v6)) fun x7 =>
    gm_lt (α := Int32) (y2 + 1) fun x8 =>
    rec x7 x8
  )
def Mo_halves_L5 (fl : Nat) (a0 : Int32) (S : gm_M) : Nat → Int32 → Int32 → Option (Int32)
  | 0 => fun _ _ => none
  | n + 1 => Mo_halves_L5_b fl a0 S (Mo_halves_L5 fl a0 S n)
def Mo_halves (fl : Nat) (a0 : Int32) (a1 : Int32) (S : gm_M) : Option Int32 :=
  gm_bp1 (Mo_halves_L5 fl a0 S fl 0 0) fun z3 =>
  gm_bp1 (Mo_in ((z3 : Int32).toInt64) ((0 - a1 : Int32).toInt64) ((a1 : Int32).toInt64)) fun v9 =>
  if vp_nar .boolean v9 = v9 then (some v9) else none
set_option maxHeartbeats 4000000 in
set_option maxRecDepth 100000 in
theorem Mo_halves_c (l : Launch) (cf : gm_C) (ad : Nat → Nat) {fl : Nat}   {a0 : Int32} {a1 : Int32} {S : gm_M} {r : Int32}  (hf : Mo_halves fl a0 a1 S = some r) : gm_Met l yX11_halves cX11_halves 5 (some .boolean) 1 25 cf ad gm_sM 17 [.ref (ad 0), .int a0, .int a1] S (some (.int r)) S := by
  refine gm_met (by decide +kernel) (Nat.le_of_ble_eq_true rfl) ?_
  intro p e s m args below meth c C hr
  have C : gm_F p s m args meth c cf ad 17 cX11_halves 5 RX11 := C
  refine gm_lve (lv' := [(0, .ref (ad 0)), (1, .int a0), (2, .int a1)]) rfl ?_
  unfold Mo_halves at hf
  refine gm_iconst (v := 0) C dX11_halves_0 (by decide) ?_
  refine gm_istore_n (lv' := [(3, .int 0), (0, .ref (ad 0)), (1, .int a0), (2, .int a1)]) C dX11_halves_1 rfl (by decide) rfl ?_
  refine gm_iconst (v := 0) C dX11_halves_2 (by decide) ?_
  refine gm_istore (lv' := [(4, .int 0), (3, .int 0), (0, .ref (ad 0)), (1, .int a0), (2, .int a1)]) C dX11_halves_3 (by decide) rfl ?_
  have L5 : ∀ (n : Nat) (y1 : Int32) (y2 : Int32) (z3 : Int32), Mo_halves_L5 fl a0 S n y1 y2 = some (z3) → gm_G p l e { frames := 1, cells := 0, slots := 0, locals := 25 } s m args below meth c (MQ below (gm_Q cf ad gm_sM 17 (some (.int r)) S) args s 0 0 (gm_A ad 17)) cf ad gm_sM 17 5 S 47 [(2, .int a1), (3, .int z3)] [] → gm_G p l e { frames := 1, cells := 0, slots := 0, locals := 25 } s m args below meth c (MQ below (gm_Q cf ad gm_sM 17 (some (.int r)) S) args s 0 0 (gm_A ad 17)) cf ad gm_sM 17 5 S 5 [(0, .ref (ad 0)), (1, .int a0), (2, .int a1), (3, .int y1), (4, .int y2)] [] := by
    intro n
    induction n with
    | zero => intro y1 y2 z3 hf K; cases (show (none : Option _) = some _ from hf)
    | succ n ih =>
      intro y1 y2 z3 hf K
      have hf : Mo_halves_L5_b fl a0 S (Mo_halves_L5 fl a0 S n) y1 y2 = some (z3) := hf
      unfold Mo_halves_L5_b at hf
      refine gm_iload C dX11_halves_5 4 rfl ?_
      refine gm_aload_n C dX11_halves_7 rfl 0 rfl ?_
      refine gm_geti C (Nat.le_of_ble_eq_true rfl) rfl kc_11 (k := 0) rfl (by decide) rfl wl_840 dX11_halves_8 ?_
      refine gm_iconst (v := 2) C dX11_halves_11 (by decide) ?_
      refine gm_idiv C dX11_halves_12 (by decide) ?_
      refine gm_icmp_ge C 47 dX11_halves_13 (by decide) (fun c4 => ?_) (fun c4 => ?_)
      · have hf := gm_it _ c4 hf
        cases hf
        exact gm_lvp [2, 3] rfl K
      · have hf := gm_if _ c4 hf
        refine gm_iload_n C dX11_halves_16 rfl 3 rfl ?_
        refine gm_aload_n C dX11_halves_17 rfl 0 rfl ?_
        refine gm_iload_n C dX11_halves_18 rfl 1 rfl ?_
        refine gm_iload C dX11_halves_19 4 rfl ?_
        obtain ⟨v5, ev5, hf⟩ := gm_bp1_s hf
        refine gm_callVi (As := [.int a0, .int y2]) C (Mo_figureOf_c l cf ad ev5) (Nat.le_of_ble_eq_true rfl) rfl kc_11 wy_Mo_figureOf rfl wl_1062 rfl ⟨(Nat.le_of_ble_eq_true rfl), (Nat.le_of_ble_eq_true rfl)⟩ rfl (Nat.le_of_ble_eq_true rfl) dX11_halves_21 ?_
        refine gm_aload_n C dX11_halves_24 rfl 0 rfl ?_
        refine gm_iload_n C dX11_halves_25 rfl 1 rfl ?_
        refine gm_aload_n C dX11_halves_26 rfl 0 rfl ?_
        refine gm_geti C (Nat.le_of_ble_eq_true rfl) rfl kc_11 (k := 0) rfl (by decide) rfl wl_840 dX11_halves_27 ?_
        refine gm_iconst (v := 1) C dX11_halves_30 (by decide) ?_
        refine gm_isub C dX11_halves_31 ?_
        refine gm_iload C dX11_halves_32 4 rfl ?_
        refine gm_isub C dX11_halves_34 ?_
        obtain ⟨v6, ev6, hf⟩ := gm_bp1_s hf
        refine gm_callVi (As := [.int a0, .int (((S.1 0 0) - 1) - y2)]) C (Mo_figureOf_c l cf ad ev6) (Nat.le_of_ble_eq_true rfl) rfl kc_11 wy_Mo_figureOf rfl wl_1062 rfl ⟨(Nat.le_of_ble_eq_true rfl), (Nat.le_of_ble_eq_true rfl)⟩ rfl (Nat.le_of_ble_eq_true rfl) dX11_halves_35 ?_
        refine gm_isub C dX11_halves_38 ?_
        refine gm_iadd C dX11_halves_39 ?_
        obtain ⟨x7, ex7, hf⟩ := gm_lt_s hf
        refine gm_topi ex7 ?_
        refine gm_istore_n (lv' := [(3, .int x7), (0, .ref (ad 0)), (1, .int a0), (2, .int a1), (4, .int y2)]) C dX11_halves_40 rfl (by decide) rfl ?_
        obtain ⟨x8, ex8, hf⟩ := gm_lt_s hf
        refine gm_iinc (v := x8) (lv' := [(4, .int x8), (3, .int x7), (0, .ref (ad 0)), (1, .int a0), (2, .int a1)]) (j := 4) C dX11_halves_41 rfl (by rw [ex8]; rfl) (by decide) rfl ?_
        refine gm_goto C 5 dX11_halves_44 (by decide) ?_
        exact gm_lvp [2, 3, 4, 1, 0] rfl (ih _ _ _ hf K)
  obtain ⟨z3, hx, hf⟩ := gm_bp1_s hf
  refine gm_lvp [2, 3, 4, 1, 0] rfl (L5 fl _ _ _ hx ?_)
  refine gm_iload_n C dX11_halves_47 rfl 1 rfl ?_
  refine gm_i2l C dX11_halves_48 rfl ?_
  refine gm_iload_n C dX11_halves_49 rfl 0 rfl ?_
  refine gm_ineg C dX11_halves_50 ?_
  refine gm_i2l C dX11_halves_51 rfl ?_
  refine gm_iload_n C dX11_halves_52 rfl 0 rfl ?_
  refine gm_i2l C dX11_halves_53 rfl ?_
  obtain ⟨v9, ev9, hf⟩ := gm_bp1_s hf
  refine gm_callSi (As := [.long ((z3 : Int32).toInt64), .long ((0 - a1 : Int32).toInt64), .long ((a1 : Int32).toInt64)]) C (Mo_in_c l cf ad ev9 (S := S)) wy_Mo_in wl_957 rfl ⟨(Nat.le_of_ble_eq_true rfl), (Nat.le_of_ble_eq_true rfl)⟩ rfl (Nat.le_of_ble_eq_true rfl) dX11_halves_54 ?_
  obtain ⟨h10, hf⟩ := gm_in _ hf
  exact gm_iretK C hr (gm_zb h10) dX11_halves_57 hf
theorem dX11_mirror_0 : decode cX11_mirror 0 = .ok (.iconst 0, 1) := by decide +kernel
theorem dX11_mirror_1 : decode cX11_mirror 1 = .ok (.istore_n 3, 1) := by decide +kernel
theorem dX11_mirror_2 : decode cX11_mirror 2 = .ok (.iconst 0, 1) := by decide +kernel
theorem dX11_mirror_3 : decode cX11_mirror 3 = .ok (.istore 4, 2) := by decide +kernel
theorem dX11_mirror_5 : decode cX11_mirror 5 = .ok (.iload 4, 2) := by decide +kernel
theorem dX11_mirror_7 : decode cX11_mirror 7 = .ok (.aload_n 0, 1) := by decide +kernel
theorem dX11_mirror_8 : decode cX11_mirror 8 = .ok (.getfield 63, 3) := by decide +kernel
theorem dX11_mirror_11 : decode cX11_mirror 11 = .ok (.iconst 2, 1) := by decide +kernel
theorem dX11_mirror_12 : decode cX11_mirror 12 = .ok (.idiv, 1) := by decide +kernel
theorem dX11_mirror_13 : decode cX11_mirror 13 = .ok (.if_icmp .ge 41, 3) := by decide +kernel
theorem dX11_mirror_16 : decode cX11_mirror 16 = .ok (.iload_n 3, 1) := by decide +kernel
theorem dX11_mirror_17 : decode cX11_mirror 17 = .ok (.aload_n 0, 1) := by decide +kernel
theorem dX11_mirror_18 : decode cX11_mirror 18 = .ok (.iload_n 1, 1) := by decide +kernel
theorem dX11_mirror_19 : decode cX11_mirror 19 = .ok (.iload 4, 2) := by decide +kernel
theorem dX11_mirror_21 : decode cX11_mirror 21 = .ok (.invokevirtual 194, 3) := by decide +kernel
theorem dX11_mirror_24 : decode cX11_mirror 24 = .ok (.aload_n 0, 1) := by decide +kernel
theorem dX11_mirror_25 : decode cX11_mirror 25 = .ok (.iload_n 1, 1) := by decide +kernel
theorem dX11_mirror_26 : decode cX11_mirror 26 = .ok (.aload_n 0, 1) := by decide +kernel
theorem dX11_mirror_27 : decode cX11_mirror 27 = .ok (.getfield 63, 3) := by decide +kernel
theorem dX11_mirror_30 : decode cX11_mirror 30 = .ok (.iconst 1, 1) := by decide +kernel
theorem dX11_mirror_31 : decode cX11_mirror 31 = .ok (.isub, 1) := by decide +kernel
theorem dX11_mirror_32 : decode cX11_mirror 32 = .ok (.iload 4, 2) := by decide +kernel
theorem dX11_mirror_34 : decode cX11_mirror 34 = .ok (.isub, 1) := by decide +kernel
theorem dX11_mirror_35 : decode cX11_mirror 35 = .ok (.invokevirtual 194, 3) := by decide +kernel
theorem dX11_mirror_38 : decode cX11_mirror 38 = .ok (.if_icmp .ne 7, 3) := by decide +kernel
theorem dX11_mirror_41 : decode cX11_mirror 41 = .ok (.iconst 0, 1) := by decide +kernel
theorem dX11_mirror_42 : decode cX11_mirror 42 = .ok (.goto 4, 3) := by decide +kernel
theorem dX11_mirror_45 : decode cX11_mirror 45 = .ok (.iconst 1, 1) := by decide +kernel
theorem dX11_mirror_46 : decode cX11_mirror 46 = .ok (.iadd, 1) := by decide +kernel
theorem dX11_mirror_47 : decode cX11_mirror 47 = .ok (.istore_n 3, 1) := by decide +kernel
theorem dX11_mirror_48 : decode cX11_mirror 48 = .ok (.iinc 4 1, 3) := by decide +kernel
theorem dX11_mirror_51 : decode cX11_mirror 51 = .ok (.goto (-46), 3) := by decide +kernel
theorem dX11_mirror_54 : decode cX11_mirror 54 = .ok (.iload_n 3, 1) := by decide +kernel
theorem dX11_mirror_55 : decode cX11_mirror 55 = .ok (.iload_n 2, 1) := by decide +kernel
theorem dX11_mirror_56 : decode cX11_mirror 56 = .ok (.if_icmp .gt 7, 3) := by decide +kernel
theorem dX11_mirror_59 : decode cX11_mirror 59 = .ok (.iconst 1, 1) := by decide +kernel
theorem dX11_mirror_60 : decode cX11_mirror 60 = .ok (.goto 4, 3) := by decide +kernel
theorem dX11_mirror_63 : decode cX11_mirror 63 = .ok (.iconst 0, 1) := by decide +kernel
theorem dX11_mirror_64 : decode cX11_mirror 64 = .ok (.ireturn, 1) := by decide +kernel
def Mo_mirror_L5_b (fl : Nat) (a0 : Int32) (S : gm_M) (rec : Int32 → Int32 → Option (Int32)) (y1 : Int32) (y2 : Int32) : Option (Int32) :=
  if (S.1 0 0) / 2 ≤ y2 then (
    some (y1)
  ) else (
    gm_bp1 (Mo_figureOf fl a0 y2 S) fun v5 =>
    gm_bp1 (Mo_figureOf fl a0 (((S.1 0 0) - 1) - y2) S) fun v6 =>
    gm_bp1 (show Option (Int32) from
      if v5 = v6 then (
        some (0)
      ) else (
        some (1)
      )
    ) fun x7 =>
    gm_lt (α := Int32) (y1 + x7) fun x8 =>
    gm_lt (α := Int32) (y2 + 1) fun x9 =>
    rec x8 x9
  )
def Mo_mirror_L5 (fl : Nat) (a0 : Int32) (S : gm_M) : Nat → Int32 → Int32 → Option (Int32)
  | 0 => fun _ _ => none
  | n + 1 => Mo_mirror_L5_b fl a0 S (Mo_mirror_L5 fl a0 S n)
def Mo_mirror (fl : Nat) (a0 : Int32) (a1 : Int32) (S : gm_M) : Option Int32 :=
  gm_bp1 (Mo_mirror_L5 fl a0 S fl 0 0) fun z3 =>
  if a1 < z3 then (
    some (0)
  ) else (
    some (1)
  )
set_option maxHeartbeats 4000000 in
set_option maxRecDepth 100000 in
theorem Mo_mirror_c (l : Launch) (cf : gm_C) (ad : Nat → Nat) {fl : Nat}   {a0 : Int32} {a1 : Int32} {S : gm_M} {r : Int32}  (hf : Mo_mirror fl a0 a1 S = some r) : gm_Met l yX11_mirror cX11_mirror 5 (some .boolean) 1 24 cf ad gm_sM 17 [.ref (ad 0), .int a0, .int a1] S (some (.int r)) S := by
  refine gm_met (by decide +kernel) (Nat.le_of_ble_eq_true rfl) ?_
  intro p e s m args below meth c C hr
  have C : gm_F p s m args meth c cf ad 17 cX11_mirror 5 RX11 := C
  refine gm_lve (lv' := [(0, .ref (ad 0)), (1, .int a0), (2, .int a1)]) rfl ?_
  unfold Mo_mirror at hf
  refine gm_iconst (v := 0) C dX11_mirror_0 (by decide) ?_
  refine gm_istore_n (lv' := [(3, .int 0), (0, .ref (ad 0)), (1, .int a0), (2, .int a1)]) C dX11_mirror_1 rfl (by decide) rfl ?_
  refine gm_iconst (v := 0) C dX11_mirror_2 (by decide) ?_
  refine gm_istore (lv' := [(4, .int 0), (3, .int 0), (0, .ref (ad 0)), (1, .int a0), (2, .int a1)]) C dX11_mirror_3 (by decide) rfl ?_
  have L5 : ∀ (n : Nat) (y1 : Int32) (y2 : Int32) (z3 : Int32), Mo_mirror_L5 fl a0 S n y1 y2 = some (z3) → gm_G p l e { frames := 1, cells := 0, slots := 0, locals := 24 } s m args below meth c (MQ below (gm_Q cf ad gm_sM 17 (some (.int r)) S) args s 0 0 (gm_A ad 17)) cf ad gm_sM 17 5 S 54 [(2, .int a1), (3, .int z3)] [] → gm_G p l e { frames := 1, cells := 0, slots := 0, locals := 24 } s m args below meth c (MQ below (gm_Q cf ad gm_sM 17 (some (.int r)) S) args s 0 0 (gm_A ad 17)) cf ad gm_sM 17 5 S 5 [(0, .ref (ad 0)), (1, .int a0), (2, .int a1), (3, .int y1), (4, .int y2)] [] := by
    intro n
    induction n with
    | zero => intro y1 y2 z3 hf K; cases (show (none : Option _) = some _ from hf)
    | succ n ih =>
      intro y1 y2 z3 hf K
      have hf : Mo_mirror_L5_b fl a0 S (Mo_mirror_L5 fl a0 S n) y1 y2 = some (z3) := hf
      unfold Mo_mirror_L5_b at hf
      refine gm_iload C dX11_mirror_5 4 rfl ?_
      refine gm_aload_n C dX11_mirror_7 rfl 0 rfl ?_
      refine gm_geti C (Nat.le_of_ble_eq_true rfl) rfl kc_11 (k := 0) rfl (by decide) rfl wl_840 dX11_mirror_8 ?_
      refine gm_iconst (v := 2) C dX11_mirror_11 (by decide) ?_
      refine gm_idiv C dX11_mirror_12 (by decide) ?_
      refine gm_icmp_ge C 54 dX11_mirror_13 (by decide) (fun c4 => ?_) (fun c4 => ?_)
      · have hf := gm_it _ c4 hf
        cases hf
        exact gm_lvp [2, 3] rfl K
      · have hf := gm_if _ c4 hf
        refine gm_iload_n C dX11_mirror_16 rfl 3 rfl ?_
        refine gm_aload_n C dX11_mirror_17 rfl 0 rfl ?_
        refine gm_iload_n C dX11_mirror_18 rfl 1 rfl ?_
        refine gm_iload C dX11_mirror_19 4 rfl ?_
        obtain ⟨v5, ev5, hf⟩ := gm_bp1_s hf
        refine gm_callVi (As := [.int a0, .int y2]) C (Mo_figureOf_c l cf ad ev5) (Nat.le_of_ble_eq_true rfl) rfl kc_11 wy_Mo_figureOf rfl wl_1062 rfl ⟨(Nat.le_of_ble_eq_true rfl), (Nat.le_of_ble_eq_true rfl)⟩ rfl (Nat.le_of_ble_eq_true rfl) dX11_mirror_21 ?_
        refine gm_aload_n C dX11_mirror_24 rfl 0 rfl ?_
        refine gm_iload_n C dX11_mirror_25 rfl 1 rfl ?_
        refine gm_aload_n C dX11_mirror_26 rfl 0 rfl ?_
        refine gm_geti C (Nat.le_of_ble_eq_true rfl) rfl kc_11 (k := 0) rfl (by decide) rfl wl_840 dX11_mirror_27 ?_
        refine gm_iconst (v := 1) C dX11_mirror_30 (by decide) ?_
        refine gm_isub C dX11_mirror_31 ?_
        refine gm_iload C dX11_mirror_32 4 rfl ?_
        refine gm_isub C dX11_mirror_34 ?_
        obtain ⟨v6, ev6, hf⟩ := gm_bp1_s hf
        refine gm_callVi (As := [.int a0, .int (((S.1 0 0) - 1) - y2)]) C (Mo_figureOf_c l cf ad ev6) (Nat.le_of_ble_eq_true rfl) rfl kc_11 wy_Mo_figureOf rfl wl_1062 rfl ⟨(Nat.le_of_ble_eq_true rfl), (Nat.le_of_ble_eq_true rfl)⟩ rfl (Nat.le_of_ble_eq_true rfl) dX11_mirror_35 ?_
        obtain ⟨x7, hx, hf⟩ := gm_bp1_s hf
        have key : gm_G p l e { frames := 1, cells := 0, slots := 0, locals := 24 } s m args below meth c (MQ below (gm_Q cf ad gm_sM 17 (some (.int r)) S) args s 0 0 (gm_A ad 17)) cf ad gm_sM 17 5 S 46 [(0, .ref (ad 0)), (1, .int a0), (2, .int a1), (4, .int y2)] [.int x7, .int y1] := by
          refine gm_iadd C dX11_mirror_46 ?_
          obtain ⟨x8, ex8, hf⟩ := gm_lt_s hf
          refine gm_topi ex8 ?_
          refine gm_istore_n (lv' := [(3, .int x8), (0, .ref (ad 0)), (1, .int a0), (2, .int a1), (4, .int y2)]) C dX11_mirror_47 rfl (by decide) rfl ?_
          obtain ⟨x9, ex9, hf⟩ := gm_lt_s hf
          refine gm_iinc (v := x9) (lv' := [(4, .int x9), (3, .int x8), (0, .ref (ad 0)), (1, .int a0), (2, .int a1)]) (j := 4) C dX11_mirror_48 rfl (by rw [ex9]; rfl) (by decide) rfl ?_
          refine gm_goto C 5 dX11_mirror_51 (by decide) ?_
          exact gm_lvp [2, 3, 4, 1, 0] rfl (ih _ _ _ hf K)
        have hf := hx
        refine gm_icmp_ne C 45 dX11_mirror_38 (by decide) (fun c10 => ?_) (fun c10 => ?_)
        · have hf := gm_if _ c10 hf
          refine gm_iconst (v := 1) C dX11_mirror_45 (by decide) ?_
          cases hf
          exact gm_lvp [0, 1, 2, 4] rfl key
        · have hf := gm_it _ c10 hf
          refine gm_iconst (v := 0) C dX11_mirror_41 (by decide) ?_
          refine gm_goto C 46 dX11_mirror_42 (by decide) ?_
          cases hf
          exact gm_lvp [0, 1, 2, 4] rfl key
  obtain ⟨z3, hx, hf⟩ := gm_bp1_s hf
  refine gm_lvp [2, 3, 4, 1, 0] rfl (L5 fl _ _ _ hx ?_)
  refine gm_iload_n C dX11_mirror_54 rfl 1 rfl ?_
  refine gm_iload_n C dX11_mirror_55 rfl 0 rfl ?_
  refine gm_icmp_gt C 63 dX11_mirror_56 (by decide) (fun c11 => ?_) (fun c11 => ?_)
  · have hf := gm_it _ c11 hf
    refine gm_iconst (v := 0) C dX11_mirror_63 (by decide) ?_
    exact gm_iretK C hr rfl dX11_mirror_64 hf
  · have hf := gm_if _ c11 hf
    refine gm_iconst (v := 1) C dX11_mirror_59 (by decide) ?_
    refine gm_goto C 64 dX11_mirror_60 (by decide) ?_
    exact gm_iretK C hr rfl dX11_mirror_64 hf
theorem dX11_counts_0 : decode cX11_counts 0 = .ok (.iconst 0, 1) := by decide +kernel
theorem dX11_counts_1 : decode cX11_counts 1 = .ok (.istore 4, 2) := by decide +kernel
theorem dX11_counts_3 : decode cX11_counts 3 = .ok (.iconst 0, 1) := by decide +kernel
theorem dX11_counts_4 : decode cX11_counts 4 = .ok (.istore 5, 2) := by decide +kernel
theorem dX11_counts_6 : decode cX11_counts 6 = .ok (.iload 5, 2) := by decide +kernel
theorem dX11_counts_8 : decode cX11_counts 8 = .ok (.aload_n 0, 1) := by decide +kernel
theorem dX11_counts_9 : decode cX11_counts 9 = .ok (.getfield 63, 3) := by decide +kernel
theorem dX11_counts_12 : decode cX11_counts 12 = .ok (.if_icmp .ge 30, 3) := by decide +kernel
theorem dX11_counts_15 : decode cX11_counts 15 = .ok (.iload 4, 2) := by decide +kernel
theorem dX11_counts_17 : decode cX11_counts 17 = .ok (.aload_n 0, 1) := by decide +kernel
theorem dX11_counts_18 : decode cX11_counts 18 = .ok (.iload_n 1, 1) := by decide +kernel
theorem dX11_counts_19 : decode cX11_counts 19 = .ok (.iload 5, 2) := by decide +kernel
theorem dX11_counts_21 : decode cX11_counts 21 = .ok (.invokevirtual 194, 3) := by decide +kernel
theorem dX11_counts_24 : decode cX11_counts 24 = .ok (.iload_n 2, 1) := by decide +kernel
theorem dX11_counts_25 : decode cX11_counts 25 = .ok (.if_icmp .ne 7, 3) := by decide +kernel
theorem dX11_counts_28 : decode cX11_counts 28 = .ok (.iconst 1, 1) := by decide +kernel
theorem dX11_counts_29 : decode cX11_counts 29 = .ok (.goto 4, 3) := by decide +kernel
theorem dX11_counts_32 : decode cX11_counts 32 = .ok (.iconst 0, 1) := by decide +kernel
theorem dX11_counts_33 : decode cX11_counts 33 = .ok (.iadd, 1) := by decide +kernel
theorem dX11_counts_34 : decode cX11_counts 34 = .ok (.istore 4, 2) := by decide +kernel
theorem dX11_counts_36 : decode cX11_counts 36 = .ok (.iinc 5 1, 3) := by decide +kernel
theorem dX11_counts_39 : decode cX11_counts 39 = .ok (.goto (-33), 3) := by decide +kernel
theorem dX11_counts_42 : decode cX11_counts 42 = .ok (.iload 4, 2) := by decide +kernel
theorem dX11_counts_44 : decode cX11_counts 44 = .ok (.iload_n 3, 1) := by decide +kernel
theorem dX11_counts_45 : decode cX11_counts 45 = .ok (.if_icmp .ne 7, 3) := by decide +kernel
theorem dX11_counts_48 : decode cX11_counts 48 = .ok (.iconst 1, 1) := by decide +kernel
theorem dX11_counts_49 : decode cX11_counts 49 = .ok (.goto 4, 3) := by decide +kernel
theorem dX11_counts_52 : decode cX11_counts 52 = .ok (.iconst 0, 1) := by decide +kernel
theorem dX11_counts_53 : decode cX11_counts 53 = .ok (.ireturn, 1) := by decide +kernel
def Mo_counts_L6_b (fl : Nat) (a0 : Int32) (a1 : Int32) (S : gm_M) (rec : Int32 → Int32 → Option (Int32)) (y1 : Int32) (y2 : Int32) : Option (Int32) :=
  if S.1 0 0 ≤ y2 then (
    some (y1)
  ) else (
    gm_bp1 (Mo_figureOf fl a0 y2 S) fun v5 =>
    gm_bp1 (show Option (Int32) from
      if v5 = a1 then (
        some (1)
      ) else (
        some (0)
      )
    ) fun x6 =>
    gm_lt (α := Int32) (y1 + x6) fun x7 =>
    gm_lt (α := Int32) (y2 + 1) fun x8 =>
    rec x7 x8
  )
def Mo_counts_L6 (fl : Nat) (a0 : Int32) (a1 : Int32) (S : gm_M) : Nat → Int32 → Int32 → Option (Int32)
  | 0 => fun _ _ => none
  | n + 1 => Mo_counts_L6_b fl a0 a1 S (Mo_counts_L6 fl a0 a1 S n)
def Mo_counts (fl : Nat) (a0 : Int32) (a1 : Int32) (a2 : Int32) (S : gm_M) : Option Int32 :=
  gm_bp1 (Mo_counts_L6 fl a0 a1 S fl 0 0) fun z3 =>
  if z3 = a2 then (
    some (1)
  ) else (
    some (0)
  )
set_option maxHeartbeats 4000000 in
set_option maxRecDepth 100000 in
theorem Mo_counts_c (l : Launch) (cf : gm_C) (ad : Nat → Nat) {fl : Nat}   {a0 : Int32} {a1 : Int32} {a2 : Int32} {S : gm_M} {r : Int32}  (hf : Mo_counts fl a0 a1 a2 S = some r) : gm_Met l yX11_counts cX11_counts 6 (some .boolean) 1 24 cf ad gm_sM 17 [.ref (ad 0), .int a0, .int a1, .int a2] S (some (.int r)) S := by
  refine gm_met (by decide +kernel) (Nat.le_of_ble_eq_true rfl) ?_
  intro p e s m args below meth c C hr
  have C : gm_F p s m args meth c cf ad 17 cX11_counts 6 RX11 := C
  refine gm_lve (lv' := [(0, .ref (ad 0)), (1, .int a0), (2, .int a1), (3, .int a2)]) rfl ?_
  unfold Mo_counts at hf
  refine gm_iconst (v := 0) C dX11_counts_0 (by decide) ?_
  refine gm_istore (lv' := [(4, .int 0), (0, .ref (ad 0)), (1, .int a0), (2, .int a1), (3, .int a2)]) C dX11_counts_1 (by decide) rfl ?_
  refine gm_iconst (v := 0) C dX11_counts_3 (by decide) ?_
  refine gm_istore (lv' := [(5, .int 0), (4, .int 0), (0, .ref (ad 0)), (1, .int a0), (2, .int a1), (3, .int a2)]) C dX11_counts_4 (by decide) rfl ?_
  have L6 : ∀ (n : Nat) (y1 : Int32) (y2 : Int32) (z3 : Int32), Mo_counts_L6 fl a0 a1 S n y1 y2 = some (z3) → gm_G p l e { frames := 1, cells := 0, slots := 0, locals := 24 } s m args below meth c (MQ below (gm_Q cf ad gm_sM 17 (some (.int r)) S) args s 0 0 (gm_A ad 17)) cf ad gm_sM 17 6 S 42 [(3, .int a2), (4, .int z3)] [] → gm_G p l e { frames := 1, cells := 0, slots := 0, locals := 24 } s m args below meth c (MQ below (gm_Q cf ad gm_sM 17 (some (.int r)) S) args s 0 0 (gm_A ad 17)) cf ad gm_sM 17 6 S 6 [(0, .ref (ad 0)), (1, .int a0), (2, .int a1), (3, .int a2), (4, .int y1), (5, .int y2)] [] := by
    intro n
    induction n with
    | zero => intro y1 y2 z3 hf K; cases (show (none : Option _) = some _ from hf)
    | succ n ih =>
      intro y1 y2 z3 hf K
      have hf : Mo_counts_L6_b fl a0 a1 S (Mo_counts_L6 fl a0 a1 S n) y1 y2 = some (z3) := hf
      unfold Mo_counts_L6_b at hf
      refine gm_iload C dX11_counts_6 5 rfl ?_
      refine gm_aload_n C dX11_counts_8 rfl 0 rfl ?_
      refine gm_geti C (Nat.le_of_ble_eq_true rfl) rfl kc_11 (k := 0) rfl (by decide) rfl wl_840 dX11_counts_9 ?_
      refine gm_icmp_ge C 42 dX11_counts_12 (by decide) (fun c4 => ?_) (fun c4 => ?_)
      · have hf := gm_it _ c4 hf
        cases hf
        exact gm_lvp [3, 4] rfl K
      · have hf := gm_if _ c4 hf
        refine gm_iload C dX11_counts_15 4 rfl ?_
        refine gm_aload_n C dX11_counts_17 rfl 0 rfl ?_
        refine gm_iload_n C dX11_counts_18 rfl 1 rfl ?_
        refine gm_iload C dX11_counts_19 5 rfl ?_
        obtain ⟨v5, ev5, hf⟩ := gm_bp1_s hf
        refine gm_callVi (As := [.int a0, .int y2]) C (Mo_figureOf_c l cf ad ev5) (Nat.le_of_ble_eq_true rfl) rfl kc_11 wy_Mo_figureOf rfl wl_1062 rfl ⟨(Nat.le_of_ble_eq_true rfl), (Nat.le_of_ble_eq_true rfl)⟩ rfl (Nat.le_of_ble_eq_true rfl) dX11_counts_21 ?_
        refine gm_iload_n C dX11_counts_24 rfl 2 rfl ?_
        obtain ⟨x6, hx, hf⟩ := gm_bp1_s hf
        have key : gm_G p l e { frames := 1, cells := 0, slots := 0, locals := 24 } s m args below meth c (MQ below (gm_Q cf ad gm_sM 17 (some (.int r)) S) args s 0 0 (gm_A ad 17)) cf ad gm_sM 17 6 S 33 [(0, .ref (ad 0)), (1, .int a0), (2, .int a1), (3, .int a2), (5, .int y2)] [.int x6, .int y1] := by
          refine gm_iadd C dX11_counts_33 ?_
          obtain ⟨x7, ex7, hf⟩ := gm_lt_s hf
          refine gm_topi ex7 ?_
          refine gm_istore (lv' := [(4, .int x7), (0, .ref (ad 0)), (1, .int a0), (2, .int a1), (3, .int a2), (5, .int y2)]) C dX11_counts_34 (by decide) rfl ?_
          obtain ⟨x8, ex8, hf⟩ := gm_lt_s hf
          refine gm_iinc (v := x8) (lv' := [(5, .int x8), (4, .int x7), (0, .ref (ad 0)), (1, .int a0), (2, .int a1), (3, .int a2)]) (j := 5) C dX11_counts_36 rfl (by rw [ex8]; rfl) (by decide) rfl ?_
          refine gm_goto C 6 dX11_counts_39 (by decide) ?_
          exact gm_lvp [2, 3, 4, 5, 1, 0] rfl (ih _ _ _ hf K)
        have hf := hx
        refine gm_icmp_ne C 32 dX11_counts_25 (by decide) (fun c9 => ?_) (fun c9 => ?_)
        · have hf := gm_if _ c9 hf
          refine gm_iconst (v := 0) C dX11_counts_32 (by decide) ?_
          cases hf
          exact gm_lvp [0, 1, 2, 3, 5] rfl key
        · have hf := gm_it _ c9 hf
          refine gm_iconst (v := 1) C dX11_counts_28 (by decide) ?_
          refine gm_goto C 33 dX11_counts_29 (by decide) ?_
          cases hf
          exact gm_lvp [0, 1, 2, 3, 5] rfl key
  obtain ⟨z3, hx, hf⟩ := gm_bp1_s hf
  refine gm_lvp [2, 3, 4, 5, 1, 0] rfl (L6 fl _ _ _ hx ?_)
  refine gm_iload C dX11_counts_42 1 rfl ?_
  refine gm_iload_n C dX11_counts_44 rfl 0 rfl ?_
  refine gm_icmp_ne C 52 dX11_counts_45 (by decide) (fun c10 => ?_) (fun c10 => ?_)
  · have hf := gm_if _ c10 hf
    refine gm_iconst (v := 0) C dX11_counts_52 (by decide) ?_
    exact gm_iretK C hr rfl dX11_counts_53 hf
  · have hf := gm_it _ c10 hf
    refine gm_iconst (v := 1) C dX11_counts_48 (by decide) ?_
    refine gm_goto C 53 dX11_counts_49 (by decide) ?_
    exact gm_iretK C hr rfl dX11_counts_53 hf
