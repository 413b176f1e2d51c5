theorem dX5_readText_0 : decode cX5_readText 0 = .ok (.aload_n 0, 1) := by decide +kernel
theorem dX5_readText_1 : decode cX5_readText 1 = .ok (.getfield 21, 3) := by decide +kernel
theorem dX5_readText_4 : decode cX5_readText 4 = .ok (.invokevirtual 25, 3) := by decide +kernel
theorem dX5_readText_7 : decode cX5_readText 7 = .ok (.aload_n 0, 1) := by decide +kernel
theorem dX5_readText_8 : decode cX5_readText 8 = .ok (.iconst 0, 1) := by decide +kernel
theorem dX5_readText_9 : decode cX5_readText 9 = .ok (.putfield 28, 3) := by decide +kernel
theorem dX5_readText_12 : decode cX5_readText 12 = .ok (.aload_n 0, 1) := by decide +kernel
theorem dX5_readText_13 : decode cX5_readText 13 = .ok (.iconst 0, 1) := by decide +kernel
theorem dX5_readText_14 : decode cX5_readText 14 = .ok (.putfield 32, 3) := by decide +kernel
theorem dX5_readText_17 : decode cX5_readText 17 = .ok (.aload_n 0, 1) := by decide +kernel
theorem dX5_readText_18 : decode cX5_readText 18 = .ok (.iconst (-1), 1) := by decide +kernel
theorem dX5_readText_19 : decode cX5_readText 19 = .ok (.putfield 35, 3) := by decide +kernel
theorem dX5_readText_22 : decode cX5_readText 22 = .ok (.aload_n 0, 1) := by decide +kernel
theorem dX5_readText_23 : decode cX5_readText 23 = .ok (.iconst 0, 1) := by decide +kernel
theorem dX5_readText_24 : decode cX5_readText 24 = .ok (.putfield 38, 3) := by decide +kernel
theorem dX5_readText_27 : decode cX5_readText 27 = .ok (.aload_n 0, 1) := by decide +kernel
theorem dX5_readText_28 : decode cX5_readText 28 = .ok (.invokevirtual 42, 3) := by decide +kernel
theorem dX5_readText_31 : decode cX5_readText 31 = .ok (.iconst 0, 1) := by decide +kernel
theorem dX5_readText_32 : decode cX5_readText 32 = .ok (.istore_n 1, 1) := by decide +kernel
theorem dX5_readText_33 : decode cX5_readText 33 = .ok (.iload_n 1, 1) := by decide +kernel
theorem dX5_readText_34 : decode cX5_readText 34 = .ok (.sipush 240, 3) := by decide +kernel
theorem dX5_readText_37 : decode cX5_readText 37 = .ok (.if_icmp .ge 38, 3) := by decide +kernel
theorem dX5_readText_40 : decode cX5_readText 40 = .ok (.aload_n 0, 1) := by decide +kernel
theorem dX5_readText_41 : decode cX5_readText 41 = .ok (.getfield 28, 3) := by decide +kernel
theorem dX5_readText_44 : decode cX5_readText 44 = .ok (.aload_n 0, 1) := by decide +kernel
theorem dX5_readText_45 : decode cX5_readText 45 = .ok (.getfield 12, 3) := by decide +kernel
theorem dX5_readText_48 : decode cX5_readText 48 = .ok (.getfield 45, 3) := by decide +kernel
theorem dX5_readText_51 : decode cX5_readText 51 = .ok (.if_icmp .ge 24, 3) := by decide +kernel
theorem dX5_readText_54 : decode cX5_readText 54 = .ok (.aload_n 0, 1) := by decide +kernel
theorem dX5_readText_55 : decode cX5_readText 55 = .ok (.getfield 32, 3) := by decide +kernel
theorem dX5_readText_58 : decode cX5_readText 58 = .ok (.ifCond .ne 17, 3) := by decide +kernel
theorem dX5_readText_61 : decode cX5_readText 61 = .ok (.aload_n 0, 1) := by decide +kernel
theorem dX5_readText_62 : decode cX5_readText 62 = .ok (.invokevirtual 48, 3) := by decide +kernel
theorem dX5_readText_65 : decode cX5_readText 65 = .ok (.aload_n 0, 1) := by decide +kernel
theorem dX5_readText_66 : decode cX5_readText 66 = .ok (.invokevirtual 42, 3) := by decide +kernel
theorem dX5_readText_69 : decode cX5_readText 69 = .ok (.iinc 1 1, 3) := by decide +kernel
theorem dX5_readText_72 : decode cX5_readText 72 = .ok (.goto (-39), 3) := by decide +kernel
theorem dX5_readText_75 : decode cX5_readText 75 = .ok (.return_, 1) := by decide +kernel
def Rd_readText_L33_b (fl : Nat) (rec : Int32 → gm_M → Option (gm_M)) (y7 : Int32) (S8 : gm_M) : Option (gm_M) :=
  if (240 : Int32) ≤ y7 then (
    some (S8)
  ) else (
    if S8.1 2 1 ≤ S8.1 1 2 then (
      some (S8)
    ) else (
      if S8.1 1 4 = 0 then (
        gm_bp1 (Rd_readClause fl S8) fun S13 =>
        gm_bp1 (Rd_skipBlanks fl S13) fun S14 =>
        gm_lt (α := Int32) (y7 + 1) fun x15 =>
        rec x15 S14
      ) else (
        some (S8)
      )
    )
  )
def Rd_readText_L33 (fl : Nat) : Nat → Int32 → gm_M → Option (gm_M)
  | 0 => fun _ _ => none
  | n + 1 => Rd_readText_L33_b fl (Rd_readText_L33 fl n)
def Rd_readText (fl : Nat) (S : gm_M) : Option gm_M :=
  gm_bp1 (Tr_clear 4 S) fun S1 =>
  gm_lt (α := gm_M) (gm_ui S1 1 2 0) fun S2 =>
  gm_lt (α := gm_M) (gm_ui S2 1 4 0) fun S3 =>
  gm_lt (α := gm_M) (gm_ui S3 1 5 (-1)) fun S4 =>
  gm_lt (α := gm_M) (gm_ui S4 1 6 0) fun S5 =>
  gm_bp1 (Rd_skipBlanks fl S5) fun S6 =>
  gm_bp1 (Rd_readText_L33 fl fl 0 S6) fun S9 =>
  some S9
set_option maxHeartbeats 4000000 in
set_option maxRecDepth 100000 in
theorem Rd_readText_c (l : Launch) (cf : gm_C) (ad : Nat → Nat) {fl : Nat}    {S : gm_M}  {S'  : gm_M} (hf : Rd_readText fl S = some S') : gm_Met l yX5_readText cX5_readText 2 none 5 111 cf ad gm_sC 106 [.ref (ad 1)] S none S' := by
  refine gm_met (by decide +kernel) (Nat.le_of_ble_eq_true rfl) ?_
  intro p e s m args below meth c C hr
  have C : gm_F p s m args meth c cf ad 106 cX5_readText 2 RX5 := C
  refine gm_lve (lv' := [(0, .ref (ad 1))]) rfl ?_
  unfold Rd_readText at hf
  refine gm_aload_n C dX5_readText_0 rfl 0 rfl ?_
  refine gm_getr (j := 3) (u := 4) C (Nat.le_of_ble_eq_true rfl) rfl kc_5 (k := 1) rfl (by decide) rfl rfl wl_151 dX5_readText_1 ?_
  obtain ⟨S1, eS1, hf⟩ := gm_bp1_s hf
  refine gm_callVv (As := []) C (Tr_clear_c l cf ad gm_tr_4 eS1) (Nat.le_of_ble_eq_true rfl) rfl kc_9 wy_Tr_clear rfl wl_374 rfl ⟨(Nat.le_of_ble_eq_true rfl), (Nat.le_of_ble_eq_true rfl)⟩ rfl (Nat.le_of_ble_eq_true rfl) dX5_readText_4 ?_
  refine gm_aload_n C dX5_readText_7 rfl 0 rfl ?_
  refine gm_iconst (v := 0) C dX5_readText_8 (by decide) ?_
  refine gm_puti C (Nat.le_of_ble_eq_true rfl) rfl kc_5 (k := 2) rfl (by decide) rfl rfl (kc_5.2.2.2.1 2 (by decide)) rfl rfl wl_153 dX5_readText_9 ?_
  obtain ⟨S2, eS2, hf⟩ := gm_lt_s hf
  refine gm_topm eS2 ?_
  refine gm_aload_n C dX5_readText_12 rfl 0 rfl ?_
  refine gm_iconst (v := 0) C dX5_readText_13 (by decide) ?_
  refine gm_puti C (Nat.le_of_ble_eq_true rfl) rfl kc_5 (k := 4) rfl (by decide) rfl rfl (kc_5.2.2.2.1 4 (by decide)) rfl rfl wl_155 dX5_readText_14 ?_
  obtain ⟨S3, eS3, hf⟩ := gm_lt_s hf
  refine gm_topm eS3 ?_
  refine gm_aload_n C dX5_readText_17 rfl 0 rfl ?_
  refine gm_iconst (v := (-1)) C dX5_readText_18 (by decide) ?_
  refine gm_puti C (Nat.le_of_ble_eq_true rfl) rfl kc_5 (k := 5) rfl (by decide) rfl rfl (kc_5.2.2.2.1 5 (by decide)) rfl rfl wl_157 dX5_readText_19 ?_
  obtain ⟨S4, eS4, hf⟩ := gm_lt_s hf
  refine gm_topm eS4 ?_
  refine gm_aload_n C dX5_readText_22 rfl 0 rfl ?_
  refine gm_iconst (v := 0) C dX5_readText_23 (by decide) ?_
  refine gm_puti C (Nat.le_of_ble_eq_true rfl) rfl kc_5 (k := 6) rfl (by decide) rfl rfl (kc_5.2.2.2.1 6 (by decide)) rfl rfl wl_159 dX5_readText_24 ?_
  obtain ⟨S5, eS5, hf⟩ := gm_lt_s hf
  refine gm_topm eS5 ?_
  refine gm_aload_n C dX5_readText_27 rfl 0 rfl ?_
  obtain ⟨S6, eS6, hf⟩ := gm_bp1_s hf
  refine gm_callVv (As := []) C (Rd_skipBlanks_c l cf ad eS6) (Nat.le_of_ble_eq_true rfl) rfl kc_5 wy_Rd_skipBlanks rfl wl_378 rfl ⟨(Nat.le_of_ble_eq_true rfl), (Nat.le_of_ble_eq_true rfl)⟩ rfl (Nat.le_of_ble_eq_true rfl) dX5_readText_28 ?_
  refine gm_iconst (v := 0) C dX5_readText_31 (by decide) ?_
  refine gm_istore_n (lv' := [(1, .int 0), (0, .ref (ad 1))]) C dX5_readText_32 rfl (by decide) rfl ?_
  have L33 : ∀ (n : Nat) (y7 : Int32) (S8 : gm_M) (S9 : gm_M), Rd_readText_L33 fl n y7 S8 = some (S9) → gm_G p l e { frames := 5, cells := 0, slots := 0, locals := 111 } s m args below meth c (MQ below (gm_Q cf ad gm_sC 106 none S') args s 0 0 (gm_A ad 106)) cf ad gm_sC 106 2 S9 75 [] [] → gm_G p l e { frames := 5, cells := 0, slots := 0, locals := 111 } s m args below meth c (MQ below (gm_Q cf ad gm_sC 106 none S') args s 0 0 (gm_A ad 106)) cf ad gm_sC 106 2 S8 33 [(0, .ref (ad 1)), (1, .int y7)] [] := by
    intro n
    induction n with
    | zero => intro y7 S8 S9 hf K; cases (show (none : Option _) = some _ from hf)
    | succ n ih =>
      intro y7 S8 S9 hf K
      have hf : Rd_readText_L33_b fl (Rd_readText_L33 fl n) y7 S8 = some (S9) := hf
      unfold Rd_readText_L33_b at hf
      refine gm_iload_n C dX5_readText_33 rfl 1 rfl ?_
      refine gm_sipush (v := 240) C dX5_readText_34 (by decide) ?_
      refine gm_icmp_ge C 75 dX5_readText_37 (by decide) (fun c10 => ?_) (fun c10 => ?_)
      · have hf := gm_it _ c10 hf
        cases hf
        exact gm_lvp [] rfl K
      · have hf := gm_if _ c10 hf
        refine gm_aload_n C dX5_readText_40 rfl 0 rfl ?_
        refine gm_geti C (Nat.le_of_ble_eq_true rfl) rfl kc_5 (k := 2) rfl (by decide) rfl wl_153 dX5_readText_41 ?_
        refine gm_aload_n C dX5_readText_44 rfl 0 rfl ?_
        refine gm_getr (j := 1) (u := 2) C (Nat.le_of_ble_eq_true rfl) rfl kc_5 (k := 0) rfl (by decide) rfl rfl wl_149 dX5_readText_45 ?_
        refine gm_geti C (Nat.le_of_ble_eq_true rfl) rfl kc_7 (k := 1) rfl (by decide) rfl wl_91 dX5_readText_48 ?_
        refine gm_icmp_ge C 75 dX5_readText_51 (by decide) (fun c11 => ?_) (fun c11 => ?_)
        · have hf := gm_it _ c11 hf
          cases hf
          exact gm_lvp [] rfl K
        · have hf := gm_if _ c11 hf
          refine gm_aload_n C dX5_readText_54 rfl 0 rfl ?_
          refine gm_geti C (Nat.le_of_ble_eq_true rfl) rfl kc_5 (k := 4) rfl (by decide) rfl wl_155 dX5_readText_55 ?_
          refine gm_if_ne C 75 dX5_readText_58 (by decide) (fun c12 => ?_) (fun c12 => ?_)
          · have hf := gm_if _ c12 hf
            cases hf
            exact gm_lvp [] rfl K
          · have hf := gm_it _ c12 hf
            refine gm_aload_n C dX5_readText_61 rfl 0 rfl ?_
            obtain ⟨S13, eS13, hf⟩ := gm_bp1_s hf
            refine gm_callVv (As := []) C (Rd_readClause_c l cf ad eS13) (Nat.le_of_ble_eq_true rfl) rfl kc_5 wy_Rd_readClause rfl wl_386 rfl ⟨(Nat.le_of_ble_eq_true rfl), (Nat.le_of_ble_eq_true rfl)⟩ rfl (Nat.le_of_ble_eq_true rfl) dX5_readText_62 ?_
            refine gm_aload_n C dX5_readText_65 rfl 0 rfl ?_
            obtain ⟨S14, eS14, hf⟩ := gm_bp1_s hf
            refine gm_callVv (As := []) C (Rd_skipBlanks_c l cf ad eS14) (Nat.le_of_ble_eq_true rfl) rfl kc_5 wy_Rd_skipBlanks rfl wl_378 rfl ⟨(Nat.le_of_ble_eq_true rfl), (Nat.le_of_ble_eq_true rfl)⟩ rfl (Nat.le_of_ble_eq_true rfl) dX5_readText_66 ?_
            obtain ⟨x15, ex15, hf⟩ := gm_lt_s hf
            refine gm_iinc (v := x15) (lv' := [(1, .int x15), (0, .ref (ad 1))]) (j := 1) C dX5_readText_69 rfl (by rw [ex15]; rfl) (by decide) rfl ?_
            refine gm_goto C 33 dX5_readText_72 (by decide) ?_
            exact gm_lvp [1, 0] rfl (ih _ _ _ hf K)
  obtain ⟨S9, hx, hf⟩ := gm_bp1_s hf
  refine gm_lvp [1, 0] rfl (L33 fl _ _ _ hx ?_)
  exact gm_vret C hr dX5_readText_75 hf
theorem dX9_copyFrom_0 : decode cX9_copyFrom 0 = .ok (.aload_n 0, 1) := by decide +kernel
theorem dX9_copyFrom_1 : decode cX9_copyFrom 1 = .ok (.aload_n 1, 1) := by decide +kernel
theorem dX9_copyFrom_2 : decode cX9_copyFrom 2 = .ok (.getfield 21, 3) := by decide +kernel
theorem dX9_copyFrom_5 : decode cX9_copyFrom 5 = .ok (.putfield 21, 3) := by decide +kernel
theorem dX9_copyFrom_8 : decode cX9_copyFrom 8 = .ok (.aload_n 0, 1) := by decide +kernel
theorem dX9_copyFrom_9 : decode cX9_copyFrom 9 = .ok (.aload_n 1, 1) := by decide +kernel
theorem dX9_copyFrom_10 : decode cX9_copyFrom 10 = .ok (.getfield 25, 3) := by decide +kernel
theorem dX9_copyFrom_13 : decode cX9_copyFrom 13 = .ok (.putfield 25, 3) := by decide +kernel
theorem dX9_copyFrom_16 : decode cX9_copyFrom 16 = .ok (.aload_n 0, 1) := by decide +kernel
theorem dX9_copyFrom_17 : decode cX9_copyFrom 17 = .ok (.aload_n 1, 1) := by decide +kernel
theorem dX9_copyFrom_18 : decode cX9_copyFrom 18 = .ok (.getfield 28, 3) := by decide +kernel
theorem dX9_copyFrom_21 : decode cX9_copyFrom 21 = .ok (.putfield 28, 3) := by decide +kernel
theorem dX9_copyFrom_24 : decode cX9_copyFrom 24 = .ok (.aload_n 0, 1) := by decide +kernel
theorem dX9_copyFrom_25 : decode cX9_copyFrom 25 = .ok (.aload_n 1, 1) := by decide +kernel
theorem dX9_copyFrom_26 : decode cX9_copyFrom 26 = .ok (.getfield 31, 3) := by decide +kernel
theorem dX9_copyFrom_29 : decode cX9_copyFrom 29 = .ok (.putfield 31, 3) := by decide +kernel
theorem dX9_copyFrom_32 : decode cX9_copyFrom 32 = .ok (.aload_n 0, 1) := by decide +kernel
theorem dX9_copyFrom_33 : decode cX9_copyFrom 33 = .ok (.aload_n 1, 1) := by decide +kernel
theorem dX9_copyFrom_34 : decode cX9_copyFrom 34 = .ok (.getfield 34, 3) := by decide +kernel
theorem dX9_copyFrom_37 : decode cX9_copyFrom 37 = .ok (.putfield 34, 3) := by decide +kernel
theorem dX9_copyFrom_40 : decode cX9_copyFrom 40 = .ok (.aload_n 0, 1) := by decide +kernel
theorem dX9_copyFrom_41 : decode cX9_copyFrom 41 = .ok (.aload_n 1, 1) := by decide +kernel
theorem dX9_copyFrom_42 : decode cX9_copyFrom 42 = .ok (.getfield 37, 3) := by decide +kernel
theorem dX9_copyFrom_45 : decode cX9_copyFrom 45 = .ok (.putfield 37, 3) := by decide +kernel
theorem dX9_copyFrom_48 : decode cX9_copyFrom 48 = .ok (.aload_n 1, 1) := by decide +kernel
theorem dX9_copyFrom_49 : decode cX9_copyFrom 49 = .ok (.getfield 9, 3) := by decide +kernel
theorem dX9_copyFrom_52 : decode cX9_copyFrom 52 = .ok (.iconst 0, 1) := by decide +kernel
theorem dX9_copyFrom_53 : decode cX9_copyFrom 53 = .ok (.aload_n 0, 1) := by decide +kernel
theorem dX9_copyFrom_54 : decode cX9_copyFrom 54 = .ok (.getfield 9, 3) := by decide +kernel
theorem dX9_copyFrom_57 : decode cX9_copyFrom 57 = .ok (.iconst 0, 1) := by decide +kernel
theorem dX9_copyFrom_58 : decode cX9_copyFrom 58 = .ok (.aload_n 0, 1) := by decide +kernel
theorem dX9_copyFrom_59 : decode cX9_copyFrom 59 = .ok (.getfield 9, 3) := by decide +kernel
theorem dX9_copyFrom_62 : decode cX9_copyFrom 62 = .ok (.arraylength, 1) := by decide +kernel
theorem dX9_copyFrom_63 : decode cX9_copyFrom 63 = .ok (.invokestatic 40, 3) := by decide +kernel
theorem dX9_copyFrom_66 : decode cX9_copyFrom 66 = .ok (.aload_n 1, 1) := by decide +kernel
theorem dX9_copyFrom_67 : decode cX9_copyFrom 67 = .ok (.getfield 15, 3) := by decide +kernel
theorem dX9_copyFrom_70 : decode cX9_copyFrom 70 = .ok (.iconst 0, 1) := by decide +kernel
theorem dX9_copyFrom_71 : decode cX9_copyFrom 71 = .ok (.aload_n 0, 1) := by decide +kernel
theorem dX9_copyFrom_72 : decode cX9_copyFrom 72 = .ok (.getfield 15, 3) := by decide +kernel
theorem dX9_copyFrom_75 : decode cX9_copyFrom 75 = .ok (.iconst 0, 1) := by decide +kernel
theorem dX9_copyFrom_76 : decode cX9_copyFrom 76 = .ok (.aload_n 0, 1) := by decide +kernel
theorem dX9_copyFrom_77 : decode cX9_copyFrom 77 = .ok (.getfield 15, 3) := by decide +kernel
theorem dX9_copyFrom_80 : decode cX9_copyFrom 80 = .ok (.arraylength, 1) := by decide +kernel
theorem dX9_copyFrom_81 : decode cX9_copyFrom 81 = .ok (.invokestatic 40, 3) := by decide +kernel
theorem dX9_copyFrom_84 : decode cX9_copyFrom 84 = .ok (.aload_n 1, 1) := by decide +kernel
theorem dX9_copyFrom_85 : decode cX9_copyFrom 85 = .ok (.getfield 18, 3) := by decide +kernel
theorem dX9_copyFrom_88 : decode cX9_copyFrom 88 = .ok (.iconst 0, 1) := by decide +kernel
theorem dX9_copyFrom_89 : decode cX9_copyFrom 89 = .ok (.aload_n 0, 1) := by decide +kernel
theorem dX9_copyFrom_90 : decode cX9_copyFrom 90 = .ok (.getfield 18, 3) := by decide +kernel
theorem dX9_copyFrom_93 : decode cX9_copyFrom 93 = .ok (.iconst 0, 1) := by decide +kernel
theorem dX9_copyFrom_94 : decode cX9_copyFrom 94 = .ok (.aload_n 0, 1) := by decide +kernel
theorem dX9_copyFrom_95 : decode cX9_copyFrom 95 = .ok (.getfield 18, 3) := by decide +kernel
theorem dX9_copyFrom_98 : decode cX9_copyFrom 98 = .ok (.arraylength, 1) := by decide +kernel
theorem dX9_copyFrom_99 : decode cX9_copyFrom 99 = .ok (.invokestatic 40, 3) := by decide +kernel
theorem dX9_copyFrom_102 : decode cX9_copyFrom 102 = .ok (.return_, 1) := by decide +kernel
def Tr_copyFrom (t : Nat) (o : Nat) (S : gm_M) : Option gm_M :=
  gm_lt (α := gm_M) (gm_ui S t 3 (S.1 o 3)) fun S1 =>
  gm_lt (α := gm_M) (gm_ui S1 t 4 (S1.1 o 4)) fun S2 =>
  gm_lt (α := gm_M) (gm_ui S2 t 5 (S2.1 o 5)) fun S3 =>
  gm_lt (α := gm_M) (gm_ui S3 t 6 (S3.1 o 6)) fun S4 =>
  gm_lt (α := gm_M) (gm_ui S4 t 7 (S4.1 o 7)) fun S5 =>
  gm_lt (α := gm_M) (gm_ui S5 t 8 (S5.1 o 8)) fun S6 =>
  gm_lt (α := gm_M) (gm_uf S6 (t + 1) (va_cpy (S6.1 (o + 1)) (S6.1 (t + 1)) 0 0 4)) fun S7 =>
  gm_lt (α := gm_M) (gm_uf S7 (t + 2) (va_cpy (S7.1 (o + 2)) (S7.1 (t + 2)) 0 0 8)) fun S8 =>
  gm_lt (α := gm_M) (gm_uf S8 (t + 3) (va_cpy (S8.1 (o + 3)) (S8.1 (t + 3)) 0 0 25)) fun S9 =>
  some S9
set_option maxHeartbeats 4000000 in
set_option maxRecDepth 100000 in
theorem Tr_copyFrom_c (l : Launch) (cf : gm_C) (ad : Nat → Nat)  {t : Nat} {o : Nat} (ht : gm_isTr t) (ho : gm_isTr o)  {S : gm_M}  {S'  : gm_M} (hf : Tr_copyFrom t o S = some S') : gm_Met l yX9_copyFrom cX9_copyFrom 2 none 1 40 cf ad gm_sC 106 [.ref (ad t), .ref (ad o)] S none S' := by
  refine gm_met (by decide +kernel) (Nat.le_of_ble_eq_true rfl) ?_
  intro p e s m args below meth c C hr
  have C : gm_F p s m args meth c cf ad 106 cX9_copyFrom 2 RX9 := C
  refine gm_lve (lv' := [(0, .ref (ad t)), (1, .ref (ad o))]) rfl ?_
  unfold Tr_copyFrom at hf
  refine gm_aload_n C dX9_copyFrom_0 rfl 0 rfl ?_
  refine gm_aload_n C dX9_copyFrom_1 rfl 1 rfl ?_
  refine gm_geti C (gm_tr_l0 ho) (gm_tr_k0 ho) kc_9 (k := 3) rfl (by decide) rfl wl_109 dX9_copyFrom_2 ?_
  refine gm_puti C (gm_tr_l0 ht) (gm_tr_k0 ht) kc_9 (k := 3) rfl (by decide) rfl rfl (kc_9.2.2.2.1 3 (by decide)) rfl rfl wl_109 dX9_copyFrom_5 ?_
  obtain ⟨S1, eS1, hf⟩ := gm_lt_s hf
  refine gm_topm eS1 ?_
  refine gm_aload_n C dX9_copyFrom_8 rfl 0 rfl ?_
  refine gm_aload_n C dX9_copyFrom_9 rfl 1 rfl ?_
  refine gm_geti C (gm_tr_l0 ho) (gm_tr_k0 ho) kc_9 (k := 4) rfl (by decide) rfl wl_113 dX9_copyFrom_10 ?_
  refine gm_puti C (gm_tr_l0 ht) (gm_tr_k0 ht) kc_9 (k := 4) rfl (by decide) rfl rfl (kc_9.2.2.2.1 4 (by decide)) rfl rfl wl_113 dX9_copyFrom_13 ?_
  obtain ⟨S2, eS2, hf⟩ := gm_lt_s hf
  refine gm_topm eS2 ?_
  refine gm_aload_n C dX9_copyFrom_16 rfl 0 rfl ?_
  refine gm_aload_n C dX9_copyFrom_17 rfl 1 rfl ?_
  refine gm_geti C (gm_tr_l0 ho) (gm_tr_k0 ho) kc_9 (k := 5) rfl (by decide) rfl wl_117 dX9_copyFrom_18 ?_
  refine gm_puti C (gm_tr_l0 ht) (gm_tr_k0 ht) kc_9 (k := 5) rfl (by decide) rfl rfl (kc_9.2.2.2.1 5 (by decide)) rfl rfl wl_117 dX9_copyFrom_21 ?_
  obtain ⟨S3, eS3, hf⟩ := gm_lt_s hf
  refine gm_topm eS3 ?_
  refine gm_aload_n C dX9_copyFrom_24 rfl 0 rfl ?_
  refine gm_aload_n C dX9_copyFrom_25 rfl 1 rfl ?_
  refine gm_geti C (gm_tr_l0 ho) (gm_tr_k0 ho) kc_9 (k := 6) rfl (by decide) rfl wl_119 dX9_copyFrom_26 ?_
  refine gm_puti C (gm_tr_l0 ht) (gm_tr_k0 ht) kc_9 (k := 6) rfl (by decide) rfl rfl (kc_9.2.2.2.1 6 (by decide)) rfl rfl wl_119 dX9_copyFrom_29 ?_
  obtain ⟨S4, eS4, hf⟩ := gm_lt_s hf
  refine gm_topm eS4 ?_
  refine gm_aload_n C dX9_copyFrom_32 rfl 0 rfl ?_
  refine gm_aload_n C dX9_copyFrom_33 rfl 1 rfl ?_
  refine gm_geti C (gm_tr_l0 ho) (gm_tr_k0 ho) kc_9 (k := 7) rfl (by decide) rfl wl_123 dX9_copyFrom_34 ?_
  refine gm_puti C (gm_tr_l0 ht) (gm_tr_k0 ht) kc_9 (k := 7) rfl (by decide) rfl rfl (kc_9.2.2.2.1 7 (by decide)) rfl rfl wl_123 dX9_copyFrom_37 ?_
  obtain ⟨S5, eS5, hf⟩ := gm_lt_s hf
  refine gm_topm eS5 ?_
  refine gm_aload_n C dX9_copyFrom_40 rfl 0 rfl ?_
  refine gm_aload_n C dX9_copyFrom_41 rfl 1 rfl ?_
  refine gm_geti C (gm_tr_l0 ho) (gm_tr_k0 ho) kc_9 (k := 8) rfl (by decide) rfl wl_126 dX9_copyFrom_42 ?_
  refine gm_puti C (gm_tr_l0 ht) (gm_tr_k0 ht) kc_9 (k := 8) rfl (by decide) rfl rfl (kc_9.2.2.2.1 8 (by decide)) rfl rfl wl_126 dX9_copyFrom_45 ?_
  obtain ⟨S6, eS6, hf⟩ := gm_lt_s hf
  refine gm_topm eS6 ?_
  refine gm_aload_n C dX9_copyFrom_48 rfl 1 rfl ?_
  refine gm_getr (j := 1) (u := (o + 1)) C (gm_tr_l0 ho) (gm_tr_k0 ho) kc_9 (k := 0) rfl (by decide) rfl rfl wl_104 dX9_copyFrom_49 ?_
  refine gm_iconst (v := 0) C dX9_copyFrom_52 (by decide) ?_
  refine gm_aload_n C dX9_copyFrom_53 rfl 0 rfl ?_
  refine gm_getr (j := 1) (u := (t + 1)) C (gm_tr_l0 ht) (gm_tr_k0 ht) kc_9 (k := 0) rfl (by decide) rfl rfl wl_104 dX9_copyFrom_54 ?_
  refine gm_iconst (v := 0) C dX9_copyFrom_57 (by decide) ?_
  refine gm_aload_n C dX9_copyFrom_58 rfl 0 rfl ?_
  refine gm_getr (j := 1) (u := (t + 1)) C (gm_tr_l0 ht) (gm_tr_k0 ht) kc_9 (k := 0) rfl (by decide) rfl rfl wl_104 dX9_copyFrom_59 ?_
  refine gm_alen (v := 4) C (gm_tr_l1 ht) (gm_tr_k1 ht) (gm_tr_n1 ht) (by decide) dX9_copyFrom_62 ?_
  refine gm_copy (n := 4) C (gm_tr_l1 ho) (gm_tr_k1 ho) (gm_tr_n1 ho) (gm_tr_l1 ht) (gm_tr_k1 ht) (gm_tr_n1 ht) (by decide) (by decide) wl_477 wm_copy.1 wm_copy.2.1 wm_copy.2.2 (Nat.le_of_ble_eq_true rfl) (Nat.le_of_ble_eq_true rfl) dX9_copyFrom_63 ?_
  obtain ⟨S7, eS7, hf⟩ := gm_lt_s hf
  refine gm_topm eS7 ?_
  refine gm_aload_n C dX9_copyFrom_66 rfl 1 rfl ?_
  refine gm_getr (j := 2) (u := (o + 2)) C (gm_tr_l0 ho) (gm_tr_k0 ho) kc_9 (k := 1) rfl (by decide) rfl rfl wl_107 dX9_copyFrom_67 ?_
  refine gm_iconst (v := 0) C dX9_copyFrom_70 (by decide) ?_
  refine gm_aload_n C dX9_copyFrom_71 rfl 0 rfl ?_
  refine gm_getr (j := 2) (u := (t + 2)) C (gm_tr_l0 ht) (gm_tr_k0 ht) kc_9 (k := 1) rfl (by decide) rfl rfl wl_107 dX9_copyFrom_72 ?_
  refine gm_iconst (v := 0) C dX9_copyFrom_75 (by decide) ?_
  refine gm_aload_n C dX9_copyFrom_76 rfl 0 rfl ?_
  refine gm_getr (j := 2) (u := (t + 2)) C (gm_tr_l0 ht) (gm_tr_k0 ht) kc_9 (k := 1) rfl (by decide) rfl rfl wl_107 dX9_copyFrom_77 ?_
  refine gm_alen (v := 8) C (gm_tr_l2 ht) (gm_tr_k2 ht) (gm_tr_n2 ht) (by decide) dX9_copyFrom_80 ?_
  refine gm_copy (n := 8) C (gm_tr_l2 ho) (gm_tr_k2 ho) (gm_tr_n2 ho) (gm_tr_l2 ht) (gm_tr_k2 ht) (gm_tr_n2 ht) (by decide) (by decide) wl_477 wm_copy.1 wm_copy.2.1 wm_copy.2.2 (Nat.le_of_ble_eq_true rfl) (Nat.le_of_ble_eq_true rfl) dX9_copyFrom_81 ?_
  obtain ⟨S8, eS8, hf⟩ := gm_lt_s hf
  refine gm_topm eS8 ?_
  refine gm_aload_n C dX9_copyFrom_84 rfl 1 rfl ?_
  refine gm_getr (j := 3) (u := (o + 3)) C (gm_tr_l0 ho) (gm_tr_k0 ho) kc_9 (k := 2) rfl (by decide) rfl rfl wl_108 dX9_copyFrom_85 ?_
  refine gm_iconst (v := 0) C dX9_copyFrom_88 (by decide) ?_
  refine gm_aload_n C dX9_copyFrom_89 rfl 0 rfl ?_
  refine gm_getr (j := 3) (u := (t + 3)) C (gm_tr_l0 ht) (gm_tr_k0 ht) kc_9 (k := 2) rfl (by decide) rfl rfl wl_108 dX9_copyFrom_90 ?_
  refine gm_iconst (v := 0) C dX9_copyFrom_93 (by decide) ?_
  refine gm_aload_n C dX9_copyFrom_94 rfl 0 rfl ?_
  refine gm_getr (j := 3) (u := (t + 3)) C (gm_tr_l0 ht) (gm_tr_k0 ht) kc_9 (k := 2) rfl (by decide) rfl rfl wl_108 dX9_copyFrom_95 ?_
  refine gm_alen (v := 25) C (gm_tr_l3 ht) (gm_tr_k3 ht) (gm_tr_n3 ht) (by decide) dX9_copyFrom_98 ?_
  refine gm_copy (n := 25) C (gm_tr_l3 ho) (gm_tr_k3 ho) (gm_tr_n3 ho) (gm_tr_l3 ht) (gm_tr_k3 ht) (gm_tr_n3 ht) (by decide) (by decide) wl_477 wm_copy.1 wm_copy.2.1 wm_copy.2.2 (Nat.le_of_ble_eq_true rfl) (Nat.le_of_ble_eq_true rfl) dX9_copyFrom_99 ?_
  obtain ⟨S9, eS9, hf⟩ := gm_lt_s hf
  refine gm_topm eS9 ?_
  exact gm_vret C hr dX9_copyFrom_102 hf
theorem dX8_spell_0 : decode cX8_spell 0 = .ok (.aload_n 0, 1) := by decide +kernel
theorem dX8_spell_1 : decode cX8_spell 1 = .ok (.iload_n 2, 1) := by decide +kernel
theorem dX8_spell_2 : decode cX8_spell 2 = .ok (.iconst 4, 1) := by decide +kernel
theorem dX8_spell_3 : decode cX8_spell 3 = .ok (.invokestatic 13, 3) := by decide +kernel
theorem dX8_spell_6 : decode cX8_spell 6 = .ok (.putfield 19, 3) := by decide +kernel
theorem dX8_spell_9 : decode cX8_spell 9 = .ok (.aload_n 0, 1) := by decide +kernel
theorem dX8_spell_10 : decode cX8_spell 10 = .ok (.iload_n 1, 1) := by decide +kernel
theorem dX8_spell_11 : decode cX8_spell 11 = .ok (.putfield 23, 3) := by decide +kernel
theorem dX8_spell_14 : decode cX8_spell 14 = .ok (.iload_n 1, 1) := by decide +kernel
theorem dX8_spell_15 : decode cX8_spell 15 = .ok (.istore_n 3, 1) := by decide +kernel
theorem dX8_spell_16 : decode cX8_spell 16 = .ok (.aload_n 0, 1) := by decide +kernel
theorem dX8_spell_17 : decode cX8_spell 17 = .ok (.getfield 19, 3) := by decide +kernel
theorem dX8_spell_20 : decode cX8_spell 20 = .ok (.iconst 1, 1) := by decide +kernel
theorem dX8_spell_21 : decode cX8_spell 21 = .ok (.isub, 1) := by decide +kernel
theorem dX8_spell_22 : decode cX8_spell 22 = .ok (.istore 4, 2) := by decide +kernel
theorem dX8_spell_24 : decode cX8_spell 24 = .ok (.iload 4, 2) := by decide +kernel
theorem dX8_spell_26 : decode cX8_spell 26 = .ok (.ifCond .lt 25, 3) := by decide +kernel
theorem dX8_spell_29 : decode cX8_spell 29 = .ok (.aload_n 0, 1) := by decide +kernel
theorem dX8_spell_30 : decode cX8_spell 30 = .ok (.getfield 7, 3) := by decide +kernel
theorem dX8_spell_33 : decode cX8_spell 33 = .ok (.iload 4, 2) := by decide +kernel
theorem dX8_spell_35 : decode cX8_spell 35 = .ok (.iload_n 3, 1) := by decide +kernel
theorem dX8_spell_36 : decode cX8_spell 36 = .ok (.bipush 10, 2) := by decide +kernel
theorem dX8_spell_38 : decode cX8_spell 38 = .ok (.irem, 1) := by decide +kernel
theorem dX8_spell_39 : decode cX8_spell 39 = .ok (.iastore, 1) := by decide +kernel
theorem dX8_spell_40 : decode cX8_spell 40 = .ok (.iload_n 3, 1) := by decide +kernel
theorem dX8_spell_41 : decode cX8_spell 41 = .ok (.bipush 10, 2) := by decide +kernel
theorem dX8_spell_43 : decode cX8_spell 43 = .ok (.idiv, 1) := by decide +kernel
theorem dX8_spell_44 : decode cX8_spell 44 = .ok (.istore_n 3, 1) := by decide +kernel
theorem dX8_spell_45 : decode cX8_spell 45 = .ok (.iinc 4 (-1), 3) := by decide +kernel
theorem dX8_spell_48 : decode cX8_spell 48 = .ok (.goto (-24), 3) := by decide +kernel
theorem dX8_spell_51 : decode cX8_spell 51 = .ok (.return_, 1) := by decide +kernel
def Tk_spell_L24_b (t : Nat) (rec : Int32 → Int32 → gm_M → Option (gm_M)) (y5 : Int32) (y6 : Int32) (S7 : gm_M) : Option (gm_M) :=
  if y6 < 0 then (
    some (S7)
  ) else (
    gm_ck (y6) 4 <|
    gm_lt (α := gm_M) (gm_ui S7 (t + 1) (y6.toNatClampNeg) (gm_rm y5 10)) fun S11 =>
    gm_lt (α := Int32) (y5 / 10) fun x12 =>
    gm_lt (α := Int32) (y6 + (-1)) fun x13 =>
    rec x12 x13 S11
  )
def Tk_spell_L24 (t : Nat) : Nat → Int32 → Int32 → gm_M → Option (gm_M)
  | 0 => fun _ _ _ => none
  | n + 1 => Tk_spell_L24_b t (Tk_spell_L24 t n)
def Tk_spell (fl : Nat) (t : Nat) (a0 : Int32) (a1 : Int32) (S : gm_M) : Option gm_M :=
  gm_lt (α := Int32) (if 4 < a1 then 4 else a1) fun x1 =>
  gm_lt (α := gm_M) (gm_ui S t 1 x1) fun S2 =>
  gm_lt (α := gm_M) (gm_ui S2 t 2 a0) fun S3 =>
  gm_lt (α := Int32) ((S3.1 t 1) - 1) fun x4 =>
  gm_bp1 (Tk_spell_L24 t fl a0 x4 S3) fun S8 =>
  some S8
set_option maxHeartbeats 4000000 in
set_option maxRecDepth 100000 in
theorem Tk_spell_c (l : Launch) (cf : gm_C) (ad : Nat → Nat) {fl : Nat} {t : Nat} (ht : gm_isTk t) {a0 : Int32} {a1 : Int32} {S : gm_M}  {S'  : gm_M} (hf : Tk_spell fl t a0 a1 S = some S') : gm_Met l yX8_spell cX8_spell 5 none 1 14 cf ad gm_sC 106 [.ref (ad t), .int a0, .int a1] S none S' := by
  refine gm_met (by decide +kernel) (Nat.le_of_ble_eq_true rfl) ?_
  intro p e s m args below meth c C hr
  have C : gm_F p s m args meth c cf ad 106 cX8_spell 5 RX8 := C
  refine gm_lve (lv' := [(0, .ref (ad t)), (1, .int a0), (2, .int a1)]) rfl ?_
  unfold Tk_spell at hf
  refine gm_aload_n C dX8_spell_0 rfl 0 rfl ?_
  refine gm_iload_n C dX8_spell_1 rfl 2 rfl ?_
  refine gm_iconst (v := 4) C dX8_spell_2 (by decide) ?_
  refine gm_mmin C wl_496 wm_min.1 wm_min.2.1 wm_min.2.2 (Nat.le_of_ble_eq_true rfl) (Nat.le_of_ble_eq_true rfl) dX8_spell_3 ?_
  obtain ⟨x1, ex1, hf⟩ := gm_lt_s hf
  refine gm_topi ex1 ?_
  refine gm_puti C (gm_tk_l0 ht) (gm_tk_k0 ht) kc_8 (k := 1) rfl (by decide) rfl rfl (kc_8.2.2.2.1 1 (by decide)) rfl rfl wl_192 dX8_spell_6 ?_
  obtain ⟨S2, eS2, hf⟩ := gm_lt_s hf
  refine gm_topm eS2 ?_
  refine gm_aload_n C dX8_spell_9 rfl 0 rfl ?_
  refine gm_iload_n C dX8_spell_10 rfl 1 rfl ?_
  refine gm_puti C (gm_tk_l0 ht) (gm_tk_k0 ht) kc_8 (k := 2) rfl (by decide) rfl rfl (kc_8.2.2.2.1 2 (by decide)) rfl rfl wl_193 dX8_spell_11 ?_
  obtain ⟨S3, eS3, hf⟩ := gm_lt_s hf
  refine gm_topm eS3 ?_
  refine gm_iload_n C dX8_spell_14 rfl 1 rfl ?_
  refine gm_istore_n (lv' := [(3, .int a0), (0, .ref (ad t)), (1, .int a0), (2, .int a1)]) C dX8_spell_15 rfl (by decide) rfl ?_
  refine gm_aload_n C dX8_spell_16 rfl 1 rfl ?_
  refine gm_geti C (gm_tk_l0 ht) (gm_tk_k0 ht) kc_8 (k := 1) rfl (by decide) rfl wl_192 dX8_spell_17 ?_
  refine gm_iconst (v := 1) C dX8_spell_20 (by decide) ?_
  refine gm_isub C dX8_spell_21 ?_
  obtain ⟨x4, ex4, hf⟩ := gm_lt_s hf
  refine gm_topi ex4 ?_
  refine gm_istore (lv' := [(4, .int x4), (3, .int a0), (0, .ref (ad t)), (1, .int a0), (2, .int a1)]) C dX8_spell_22 (by decide) rfl ?_
  have L24 : ∀ (n : Nat) (y5 : Int32) (y6 : Int32) (S7 : gm_M) (S8 : gm_M), Tk_spell_L24 t n y5 y6 S7 = some (S8) → gm_G p l e { frames := 1, cells := 0, slots := 0, locals := 14 } s m args below meth c (MQ below (gm_Q cf ad gm_sC 106 none S') args s 0 0 (gm_A ad 106)) cf ad gm_sC 106 5 S8 51 [] [] → gm_G p l e { frames := 1, cells := 0, slots := 0, locals := 14 } s m args below meth c (MQ below (gm_Q cf ad gm_sC 106 none S') args s 0 0 (gm_A ad 106)) cf ad gm_sC 106 5 S7 24 [(0, .ref (ad t)), (3, .int y5), (4, .int y6)] [] := by
    intro n
    induction n with
    | zero => intro y5 y6 S7 S8 hf K; cases (show (none : Option _) = some _ from hf)
    | succ n ih =>
      intro y5 y6 S7 S8 hf K
      have hf : Tk_spell_L24_b t (Tk_spell_L24 t n) y5 y6 S7 = some (S8) := hf
      unfold Tk_spell_L24_b at hf
      refine gm_iload C dX8_spell_24 2 rfl ?_
      refine gm_if_lt C 51 dX8_spell_26 (by decide) (fun c9 => ?_) (fun c9 => ?_)
      · have hf := gm_it _ c9 hf
        cases hf
        exact gm_lvp [] rfl K
      · have hf := gm_if _ c9 hf
        refine gm_aload_n C dX8_spell_29 rfl 0 rfl ?_
        refine gm_getr (j := 1) (u := (t + 1)) C (gm_tk_l0 ht) (gm_tk_k0 ht) kc_8 (k := 0) rfl (by decide) rfl rfl wl_191 dX8_spell_30 ?_
        refine gm_iload C dX8_spell_33 2 rfl ?_
        refine gm_iload_n C dX8_spell_35 rfl 1 rfl ?_
        refine gm_bipush (v := 10) C dX8_spell_36 (by decide) ?_
        refine gm_irem C dX8_spell_38 (by decide) ?_
        obtain ⟨h10, hf⟩ := gm_ck_s hf
        refine gm_iast C (gm_tk_l1 ht) (gm_tk_k1 ht) (gm_tk_n1 ht) h10 dX8_spell_39 ?_
        obtain ⟨S11, eS11, hf⟩ := gm_lt_s hf
        refine gm_topm eS11 ?_
        refine gm_iload_n C dX8_spell_40 rfl 1 rfl ?_
        refine gm_bipush (v := 10) C dX8_spell_41 (by decide) ?_
        refine gm_idiv C dX8_spell_43 (by decide) ?_
        obtain ⟨x12, ex12, hf⟩ := gm_lt_s hf
        refine gm_topi ex12 ?_
        refine gm_istore_n (lv' := [(3, .int x12), (0, .ref (ad t)), (4, .int y6)]) C dX8_spell_44 rfl (by decide) rfl ?_
        obtain ⟨x13, ex13, hf⟩ := gm_lt_s hf
        refine gm_iinc (v := x13) (lv' := [(4, .int x13), (3, .int x12), (0, .ref (ad t))]) (j := 2) C dX8_spell_45 rfl (by rw [ex13]; rfl) (by decide) rfl ?_
        refine gm_goto C 24 dX8_spell_48 (by decide) ?_
        exact gm_lvp [2, 1, 0] rfl (ih _ _ _ _ hf K)
  obtain ⟨S8, hx, hf⟩ := gm_bp1_s hf
  refine gm_lvp [2, 1, 0] rfl (L24 fl _ _ _ _ hx ?_)
  exact gm_vret C hr dX8_spell_51 hf
theorem dX6_aOf_0 : decode cX6_aOf 0 = .ok (.iload_n 0, 1) := by decide +kernel
theorem dX6_aOf_1 : decode cX6_aOf 1 = .ok (.bipush 100, 2) := by decide +kernel
theorem dX6_aOf_3 : decode cX6_aOf 3 = .ok (.idiv, 1) := by decide +kernel
theorem dX6_aOf_4 : decode cX6_aOf 4 = .ok (.bipush 100, 2) := by decide +kernel
theorem dX6_aOf_6 : decode cX6_aOf 6 = .ok (.irem, 1) := by decide +kernel
theorem dX6_aOf_7 : decode cX6_aOf 7 = .ok (.ireturn, 1) := by decide +kernel
def Ru_aOf (a0 : Int32) : Option Int32 :=
  some (gm_rm (a0 / 100) 100)
set_option maxHeartbeats 4000000 in
set_option maxRecDepth 100000 in
theorem Ru_aOf_c (l : Launch) (cf : gm_C) (ad : Nat → Nat)    {a0 : Int32} {S : gm_M} {r : Int32}  (hf : Ru_aOf a0 = some r) : gm_Met l yX6_aOf cX6_aOf 1 (some .int) 0 0 cf ad gm_sC 106 [.int a0] S (some (.int r)) S := by
  refine gm_met (by decide +kernel) (Nat.le_of_ble_eq_true rfl) ?_
  intro p e s m args below meth c C hr
  have C : gm_F p s m args meth c cf ad 106 cX6_aOf 1 RX6 := C
  refine gm_lve (lv' := [(0, .int a0)]) rfl ?_
  unfold Ru_aOf at hf
  refine gm_iload_n C dX6_aOf_0 rfl 0 rfl ?_
  refine gm_bipush (v := 100) C dX6_aOf_1 (by decide) ?_
  refine gm_idiv C dX6_aOf_3 (by decide) ?_
  refine gm_bipush (v := 100) C dX6_aOf_4 (by decide) ?_
  refine gm_irem C dX6_aOf_6 (by decide) ?_
  exact gm_iretK C hr rfl dX6_aOf_7 hf
theorem dX6_bOf_0 : decode cX6_bOf 0 = .ok (.iload_n 0, 1) := by decide +kernel
theorem dX6_bOf_1 : decode cX6_bOf 1 = .ok (.bipush 100, 2) := by decide +kernel
theorem dX6_bOf_3 : decode cX6_bOf 3 = .ok (.irem, 1) := by decide +kernel
theorem dX6_bOf_4 : decode cX6_bOf 4 = .ok (.ireturn, 1) := by decide +kernel
def Ru_bOf (a0 : Int32) : Option Int32 :=
  some (gm_rm a0 100)
set_option maxHeartbeats 4000000 in
set_option maxRecDepth 100000 in
theorem Ru_bOf_c (l : Launch) (cf : gm_C) (ad : Nat → Nat)    {a0 : Int32} {S : gm_M} {r : Int32}  (hf : Ru_bOf a0 = some r) : gm_Met l yX6_bOf cX6_bOf 1 (some .int) 0 0 cf ad gm_sC 106 [.int a0] S (some (.int r)) S := by
  refine gm_met (by decide +kernel) (Nat.le_of_ble_eq_true rfl) ?_
  intro p e s m args below meth c C hr
  have C : gm_F p s m args meth c cf ad 106 cX6_bOf 1 RX6 := C
  refine gm_lve (lv' := [(0, .int a0)]) rfl ?_
  unfold Ru_bOf at hf
  refine gm_iload_n C dX6_bOf_0 rfl 0 rfl ?_
  refine gm_bipush (v := 100) C dX6_bOf_1 (by decide) ?_
  refine gm_irem C dX6_bOf_3 (by decide) ?_
  exact gm_iretK C hr rfl dX6_bOf_4 hf
theorem dX6_kindOf_0 : decode cX6_kindOf 0 = .ok (.iload_n 0, 1) := by decide +kernel
theorem dX6_kindOf_1 : decode cX6_kindOf 1 = .ok (.sipush 10000, 3) := by decide +kernel
theorem dX6_kindOf_4 : decode cX6_kindOf 4 = .ok (.idiv, 1) := by decide +kernel
theorem dX6_kindOf_5 : decode cX6_kindOf 5 = .ok (.ireturn, 1) := by decide +kernel
def Ru_kindOf (a0 : Int32) : Option Int32 :=
  some (a0 / 10000)
set_option maxHeartbeats 4000000 in
set_option maxRecDepth 100000 in
theorem Ru_kindOf_c (l : Launch) (cf : gm_C) (ad : Nat → Nat)    {a0 : Int32} {S : gm_M} {r : Int32}  (hf : Ru_kindOf a0 = some r) : gm_Met l yX6_kindOf cX6_kindOf 1 (some .int) 0 0 cf ad gm_sC 106 [.int a0] S (some (.int r)) S := by
  refine gm_met (by decide +kernel) (Nat.le_of_ble_eq_true rfl) ?_
  intro p e s m args below meth c C hr
  have C : gm_F p s m args meth c cf ad 106 cX6_kindOf 1 RX6 := C
  refine gm_lve (lv' := [(0, .int a0)]) rfl ?_
  unfold Ru_kindOf at hf
  refine gm_iload_n C dX6_kindOf_0 rfl 0 rfl ?_
  refine gm_sipush (v := 10000) C dX6_kindOf_1 (by decide) ?_
  refine gm_idiv C dX6_kindOf_4 (by decide) ?_
  exact gm_iretK C hr rfl dX6_kindOf_5 hf
theorem dX8_halvesApart_0 : decode cX8_halvesApart 0 = .ok (.iconst 0, 1) := by decide +kernel
theorem dX8_halvesApart_1 : decode cX8_halvesApart 1 = .ok (.istore_n 1, 1) := by decide +kernel
theorem dX8_halvesApart_2 : decode cX8_halvesApart 2 = .ok (.iconst 0, 1) := by decide +kernel
theorem dX8_halvesApart_3 : decode cX8_halvesApart 3 = .ok (.istore_n 2, 1) := by decide +kernel
theorem dX8_halvesApart_4 : decode cX8_halvesApart 4 = .ok (.iload_n 2, 1) := by decide +kernel
theorem dX8_halvesApart_5 : decode cX8_halvesApart 5 = .ok (.aload_n 0, 1) := by decide +kernel
theorem dX8_halvesApart_6 : decode cX8_halvesApart 6 = .ok (.getfield 19, 3) := by decide +kernel
theorem dX8_halvesApart_9 : decode cX8_halvesApart 9 = .ok (.iconst 2, 1) := by decide +kernel
theorem dX8_halvesApart_10 : decode cX8_halvesApart 10 = .ok (.idiv, 1) := by decide +kernel
theorem dX8_halvesApart_11 : decode cX8_halvesApart 11 = .ok (.if_icmp .ge 32, 3) := by decide +kernel
theorem dX8_halvesApart_14 : decode cX8_halvesApart 14 = .ok (.iload_n 1, 1) := by decide +kernel
theorem dX8_halvesApart_15 : decode cX8_halvesApart 15 = .ok (.aload_n 0, 1) := by decide +kernel
theorem dX8_halvesApart_16 : decode cX8_halvesApart 16 = .ok (.getfield 7, 3) := by decide +kernel
theorem dX8_halvesApart_19 : decode cX8_halvesApart 19 = .ok (.iload_n 2, 1) := by decide +kernel
theorem dX8_halvesApart_20 : decode cX8_halvesApart 20 = .ok (.iaload, 1) := by decide +kernel
theorem dX8_halvesApart_21 : decode cX8_halvesApart 21 = .ok (.aload_n 0, 1) := by decide +kernel
theorem dX8_halvesApart_22 : decode cX8_halvesApart 22 = .ok (.getfield 7, 3) := by decide +kernel
theorem dX8_halvesApart_25 : decode cX8_halvesApart 25 = .ok (.aload_n 0, 1) := by decide +kernel
theorem dX8_halvesApart_26 : decode cX8_halvesApart 26 = .ok (.getfield 19, 3) := by decide +kernel
theorem dX8_halvesApart_29 : decode cX8_halvesApart 29 = .ok (.iconst 1, 1) := by decide +kernel
theorem dX8_halvesApart_30 : decode cX8_halvesApart 30 = .ok (.isub, 1) := by decide +kernel
theorem dX8_halvesApart_31 : decode cX8_halvesApart 31 = .ok (.iload_n 2, 1) := by decide +kernel
theorem dX8_halvesApart_32 : decode cX8_halvesApart 32 = .ok (.isub, 1) := by decide +kernel
theorem dX8_halvesApart_33 : decode cX8_halvesApart 33 = .ok (.iaload, 1) := by decide +kernel
theorem dX8_halvesApart_34 : decode cX8_halvesApart 34 = .ok (.isub, 1) := by decide +kernel
theorem dX8_halvesApart_35 : decode cX8_halvesApart 35 = .ok (.iadd, 1) := by decide +kernel
theorem dX8_halvesApart_36 : decode cX8_halvesApart 36 = .ok (.istore_n 1, 1) := by decide +kernel
theorem dX8_halvesApart_37 : decode cX8_halvesApart 37 = .ok (.iinc 2 1, 3) := by decide +kernel
theorem dX8_halvesApart_40 : decode cX8_halvesApart 40 = .ok (.goto (-36), 3) := by decide +kernel
theorem dX8_halvesApart_43 : decode cX8_halvesApart 43 = .ok (.iload_n 1, 1) := by decide +kernel
theorem dX8_halvesApart_44 : decode cX8_halvesApart 44 = .ok (.invokestatic 26, 3) := by decide +kernel
theorem dX8_halvesApart_47 : decode cX8_halvesApart 47 = .ok (.ireturn, 1) := by decide +kernel
def Tk_halvesApart_L4_b (t : Nat) (S : gm_M) (rec : Int32 → Int32 → Option (Int32)) (y1 : Int32) (y2 : Int32) : Option (Int32) :=
  if (S.1 t 1) / 2 ≤ y2 then (
    some (y1)
  ) else (
    gm_ck (y2) 4 <|
    gm_ck (((S.1 t 1) - 1) - y2) 4 <|
    gm_lt (α := Int32) (y1 + ((S.1 (t + 1) y2.toNatClampNeg) - (S.1 (t + 1) (((S.1 t 1) - 1) - y2).toNatClampNeg))) fun x7 =>
    gm_lt (α := Int32) (y2 + 1) fun x8 =>
    rec x7 x8
  )
def Tk_halvesApart_L4 (t : Nat) (S : gm_M) : Nat → Int32 → Int32 → Option (Int32)
  | 0 => fun _ _ => none
  | n + 1 => Tk_halvesApart_L4_b t S (Tk_halvesApart_L4 t S n)
def Tk_halvesApart (fl : Nat) (t : Nat) (S : gm_M) : Option Int32 :=
  gm_bp1 (Tk_halvesApart_L4 t S fl 0 0) fun z3 =>
  gm_lt (α := Int32) (if 0 ≤ z3 then z3 else 0 - z3) fun x9 =>
  some (x9)
set_option maxHeartbeats 4000000 in
set_option maxRecDepth 100000 in
theorem Tk_halvesApart_c (l : Launch) (cf : gm_C) (ad : Nat → Nat) {fl : Nat} {t : Nat} (ht : gm_isTk t)  {S : gm_M} {r : Int32}  (hf : Tk_halvesApart fl t S = some r) : gm_Met l yX8_halvesApart cX8_halvesApart 3 (some .int) 1 13 cf ad gm_sC 106 [.ref (ad t)] S (some (.int r)) S := by
  refine gm_met (by decide +kernel) (Nat.le_of_ble_eq_true rfl) ?_
  intro p e s m args below meth c C hr
  have C : gm_F p s m args meth c cf ad 106 cX8_halvesApart 3 RX8 := C
  refine gm_lve (lv' := [(0, .ref (ad t))]) rfl ?_
  unfold Tk_halvesApart at hf
  refine gm_iconst (v := 0) C dX8_halvesApart_0 (by decide) ?_
  refine gm_istore_n (lv' := [(1, .int 0), (0, .ref (ad t))]) C dX8_halvesApart_1 rfl (by decide) rfl ?_
  refine gm_iconst (v := 0) C dX8_halvesApart_2 (by decide) ?_
  refine gm_istore_n (lv' := [(2, .int 0), (1, .int 0), (0, .ref (ad t))]) C dX8_halvesApart_3 rfl (by decide) rfl ?_
  have L4 : ∀ (n : Nat) (y1 : Int32) (y2 : Int32) (z3 : Int32), Tk_halvesApart_L4 t S n y1 y2 = some (z3) → gm_G p l e { frames := 1, cells := 0, slots := 0, locals := 13 } s m args below meth c (MQ below (gm_Q cf ad gm_sC 106 (some (.int r)) S) args s 0 0 (gm_A ad 106)) cf ad gm_sC 106 3 S 43 [(1, .int z3)] [] → gm_G p l e { frames := 1, cells := 0, slots := 0, locals := 13 } s m args below meth c (MQ below (gm_Q cf ad gm_sC 106 (some (.int r)) S) args s 0 0 (gm_A ad 106)) cf ad gm_sC 106 3 S 4 [(0, .ref (ad t)), (1, .int y1), (2, .int y2)] [] := by
    intro n
    induction n with
    | zero => intro y1 y2 z3 hf K; cases (show (none : Option _) = some _ from hf)
    | succ n ih =>
      intro y1 y2 z3 hf K
      have hf : Tk_halvesApart_L4_b t S (Tk_halvesApart_L4 t S n) y1 y2 = some (z3) := hf
      unfold Tk_halvesApart_L4_b at hf
      refine gm_iload_n C dX8_halvesApart_4 rfl 2 rfl ?_
      refine gm_aload_n C dX8_halvesApart_5 rfl 0 rfl ?_
      refine gm_geti C (gm_tk_l0 ht) (gm_tk_k0 ht) kc_8 (k := 1) rfl (by decide) rfl wl_192 dX8_halvesApart_6 ?_
      refine gm_iconst (v := 2) C dX8_halvesApart_9 (by decide) ?_
      refine gm_idiv C dX8_halvesApart_10 (by decide) ?_
      refine gm_icmp_ge C 43 dX8_halvesApart_11 (by decide) (fun c4 => ?_) (fun c4 => ?_)
      · have hf := gm_it _ c4 hf
        cases hf
        exact gm_lvp [1] rfl K
      · have hf := gm_if _ c4 hf
        refine gm_iload_n C dX8_halvesApart_14 rfl 1 rfl ?_
        refine gm_aload_n C dX8_halvesApart_15 rfl 0 rfl ?_
        refine gm_getr (j := 1) (u := (t + 1)) C (gm_tk_l0 ht) (gm_tk_k0 ht) kc_8 (k := 0) rfl (by decide) rfl rfl wl_191 dX8_halvesApart_16 ?_
        refine gm_iload_n C dX8_halvesApart_19 rfl 2 rfl ?_
        obtain ⟨h5, hf⟩ := gm_ck_s hf
        refine gm_iald C (gm_tk_l1 ht) (gm_tk_k1 ht) (gm_tk_n1 ht) h5 dX8_halvesApart_20 ?_
        refine gm_aload_n C dX8_halvesApart_21 rfl 0 rfl ?_
        refine gm_getr (j := 1) (u := (t + 1)) C (gm_tk_l0 ht) (gm_tk_k0 ht) kc_8 (k := 0) rfl (by decide) rfl rfl wl_191 dX8_halvesApart_22 ?_
        refine gm_aload_n C dX8_halvesApart_25 rfl 0 rfl ?_
        refine gm_geti C (gm_tk_l0 ht) (gm_tk_k0 ht) kc_8 (k := 1) rfl (by decide) rfl wl_192 dX8_halvesApart_26 ?_
        refine gm_iconst (v := 1) C dX8_halvesApart_29 (by decide) ?_
        refine gm_isub C dX8_halvesApart_30 ?_
        refine gm_iload_n C dX8_halvesApart_31 rfl 2 rfl ?_
        refine gm_isub C dX8_halvesApart_32 ?_
        obtain ⟨h6, hf⟩ := gm_ck_s hf
        refine gm_iald C (gm_tk_l1 ht) (gm_tk_k1 ht) (gm_tk_n1 ht) h6 dX8_halvesApart_33 ?_
        refine gm_isub C dX8_halvesApart_34 ?_
        refine gm_iadd C dX8_halvesApart_35 ?_
        obtain ⟨x7, ex7, hf⟩ := gm_lt_s hf
        refine gm_topi ex7 ?_
        refine gm_istore_n (lv' := [(1, .int x7), (0, .ref (ad t)), (2, .int y2)]) C dX8_halvesApart_36 rfl (by decide) rfl ?_
        obtain ⟨x8, ex8, hf⟩ := gm_lt_s hf
        refine gm_iinc (v := x8) (lv' := [(2, .int x8), (1, .int x7), (0, .ref (ad t))]) (j := 2) C dX8_halvesApart_37 rfl (by rw [ex8]; rfl) (by decide) rfl ?_
        refine gm_goto C 4 dX8_halvesApart_40 (by decide) ?_
        exact gm_lvp [2, 1, 0] rfl (ih _ _ _ hf K)
  obtain ⟨z3, hx, hf⟩ := gm_bp1_s hf
  refine gm_lvp [2, 1, 0] rfl (L4 fl _ _ _ hx ?_)
  refine gm_iload_n C dX8_halvesApart_43 rfl 0 rfl ?_
  refine gm_mabs C wl_513 wm_abs.1 wm_abs.2.1 wm_abs.2.2 (Nat.le_of_ble_eq_true rfl) (Nat.le_of_ble_eq_true rfl) dX8_halvesApart_44 ?_
  obtain ⟨x9, ex9, hf⟩ := gm_lt_s hf
  refine gm_topi ex9 ?_
  exact gm_iretK C hr rfl dX8_halvesApart_47 hf
theorem dX8_unlikePairs_0 : decode cX8_unlikePairs 0 = .ok (.iconst 0, 1) := by decide +kernel
theorem dX8_unlikePairs_1 : decode cX8_unlikePairs 1 = .ok (.istore_n 1, 1) := by decide +kernel
theorem dX8_unlikePairs_2 : decode cX8_unlikePairs 2 = .ok (.iconst 0, 1) := by decide +kernel
theorem dX8_unlikePairs_3 : decode cX8_unlikePairs 3 = .ok (.istore_n 2, 1) := by decide +kernel
theorem dX8_unlikePairs_4 : decode cX8_unlikePairs 4 = .ok (.iload_n 2, 1) := by decide +kernel
theorem dX8_unlikePairs_5 : decode cX8_unlikePairs 5 = .ok (.aload_n 0, 1) := by decide +kernel
theorem dX8_unlikePairs_6 : decode cX8_unlikePairs 6 = .ok (.getfield 19, 3) := by decide +kernel
theorem dX8_unlikePairs_9 : decode cX8_unlikePairs 9 = .ok (.iconst 2, 1) := by decide +kernel
theorem dX8_unlikePairs_10 : decode cX8_unlikePairs 10 = .ok (.idiv, 1) := by decide +kernel
theorem dX8_unlikePairs_11 : decode cX8_unlikePairs 11 = .ok (.if_icmp .ge 34, 3) := by decide +kernel
theorem dX8_unlikePairs_14 : decode cX8_unlikePairs 14 = .ok (.aload_n 0, 1) := by decide +kernel
theorem dX8_unlikePairs_15 : decode cX8_unlikePairs 15 = .ok (.getfield 7, 3) := by decide +kernel
theorem dX8_unlikePairs_18 : decode cX8_unlikePairs 18 = .ok (.iload_n 2, 1) := by decide +kernel
theorem dX8_unlikePairs_19 : decode cX8_unlikePairs 19 = .ok (.iaload, 1) := by decide +kernel
theorem dX8_unlikePairs_20 : decode cX8_unlikePairs 20 = .ok (.aload_n 0, 1) := by decide +kernel
theorem dX8_unlikePairs_21 : decode cX8_unlikePairs 21 = .ok (.getfield 7, 3) := by decide +kernel
theorem dX8_unlikePairs_24 : decode cX8_unlikePairs 24 = .ok (.aload_n 0, 1) := by decide +kernel
theorem dX8_unlikePairs_25 : decode cX8_unlikePairs 25 = .ok (.getfield 19, 3) := by decide +kernel
theorem dX8_unlikePairs_28 : decode cX8_unlikePairs 28 = .ok (.iconst 1, 1) := by decide +kernel
theorem dX8_unlikePairs_29 : decode cX8_unlikePairs 29 = .ok (.isub, 1) := by decide +kernel
theorem dX8_unlikePairs_30 : decode cX8_unlikePairs 30 = .ok (.iload_n 2, 1) := by decide +kernel
theorem dX8_unlikePairs_31 : decode cX8_unlikePairs 31 = .ok (.isub, 1) := by decide +kernel
theorem dX8_unlikePairs_32 : decode cX8_unlikePairs 32 = .ok (.iaload, 1) := by decide +kernel
theorem dX8_unlikePairs_33 : decode cX8_unlikePairs 33 = .ok (.if_icmp .eq 6, 3) := by decide +kernel
theorem dX8_unlikePairs_36 : decode cX8_unlikePairs 36 = .ok (.iinc 1 1, 3) := by decide +kernel
theorem dX8_unlikePairs_39 : decode cX8_unlikePairs 39 = .ok (.iinc 2 1, 3) := by decide +kernel
theorem dX8_unlikePairs_42 : decode cX8_unlikePairs 42 = .ok (.goto (-38), 3) := by decide +kernel
theorem dX8_unlikePairs_45 : decode cX8_unlikePairs 45 = .ok (.iload_n 1, 1) := by decide +kernel
theorem dX8_unlikePairs_46 : decode cX8_unlikePairs 46 = .ok (.ireturn, 1) := by decide +kernel
def Tk_unlikePairs_L4_b (t : Nat) (S : gm_M) (rec : Int32 → Int32 → Option (Int32)) (y1 : Int32) (y2 : Int32) : Option (Int32) :=
  if (S.1 t 1) / 2 ≤ y2 then (
    some (y1)
  ) else (
    gm_ck (y2) 4 <|
    gm_ck (((S.1 t 1) - 1) - y2) 4 <|
    gm_bp1 (show Option (Int32) from
      if S.1 (t + 1) y2.toNatClampNeg = S.1 (t + 1) (((S.1 t 1) - 1) - y2).toNatClampNeg then (
        some (y1)
      ) else (
        gm_lt (α := Int32) (y1 + 1) fun x10 =>
        some (x10)
      )
    ) fun x7 =>
    gm_lt (α := Int32) (y2 + 1) fun x8 =>
    rec x7 x8
  )
def Tk_unlikePairs_L4 (t : Nat) (S : gm_M) : Nat → Int32 → Int32 → Option (Int32)
  | 0 => fun _ _ => none
  | n + 1 => Tk_unlikePairs_L4_b t S (Tk_unlikePairs_L4 t S n)
def Tk_unlikePairs (fl : Nat) (t : Nat) (S : gm_M) : Option Int32 :=
  gm_bp1 (Tk_unlikePairs_L4 t S fl 0 0) fun z3 =>
  some (z3)
set_option maxHeartbeats 4000000 in
set_option maxRecDepth 100000 in
theorem Tk_unlikePairs_c (l : Launch) (cf : gm_C) (ad : Nat → Nat) {fl : Nat} {t : Nat} (ht : gm_isTk t)  {S : gm_M} {r : Int32}  (hf : Tk_unlikePairs fl t S = some r) : gm_Met l yX8_unlikePairs cX8_unlikePairs 3 (some .int) 0 0 cf ad gm_sC 106 [.ref (ad t)] S (some (.int r)) S := by
  refine gm_met (by decide +kernel) (Nat.le_of_ble_eq_true rfl) ?_
  intro p e s m args below meth c C hr
  have C : gm_F p s m args meth c cf ad 106 cX8_unlikePairs 3 RX8 := C
  refine gm_lve (lv' := [(0, .ref (ad t))]) rfl ?_
  unfold Tk_unlikePairs at hf
  refine gm_iconst (v := 0) C dX8_unlikePairs_0 (by decide) ?_
  refine gm_istore_n (lv' := [(1, .int 0), (0, .ref (ad t))]) C dX8_unlikePairs_1 rfl (by decide) rfl ?_
  refine gm_iconst (v := 0) C dX8_unlikePairs_2 (by decide) ?_
  refine gm_istore_n (lv' := [(2, .int 0), (1, .int 0), (0, .ref (ad t))]) C dX8_unlikePairs_3 rfl (by decide) rfl ?_
  have L4 : ∀ (n : Nat) (y1 : Int32) (y2 : Int32) (z3 : Int32), Tk_unlikePairs_L4 t S n y1 y2 = some (z3) → gm_G p l e { frames := 0, cells := 0, slots := 0, locals := 0 } s m args below meth c (MQ below (gm_Q cf ad gm_sC 106 (some (.int r)) S) args s 0 0 (gm_A ad 106)) cf ad gm_sC 106 3 S 45 [(1, .int z3)] [] → gm_G p l e { frames := 0, cells := 0, slots := 0, locals := 0 } s m args below meth c (MQ below (gm_Q cf ad gm_sC 106 (some (.int r)) S) args s 0 0 (gm_A ad 106)) cf ad gm_sC 106 3 S 4 [(0, .ref (ad t)), (1, .int y1), (2, .int y2)] [] := by
    intro n
    induction n with
    | zero => intro y1 y2 z3 hf K; cases (show (none : Option _) = some _ from hf)
    | succ n ih =>
      intro y1 y2 z3 hf K
      have hf : Tk_unlikePairs_L4_b t S (Tk_unlikePairs_L4 t S n) y1 y2 = some (z3) := hf
      unfold Tk_unlikePairs_L4_b at hf
      refine gm_iload_n C dX8_unlikePairs_4 rfl 2 rfl ?_
      refine gm_aload_n C dX8_unlikePairs_5 rfl 0 rfl ?_
      refine gm_geti C (gm_tk_l0 ht) (gm_tk_k0 ht) kc_8 (k := 1) rfl (by decide) rfl wl_192 dX8_unlikePairs_6 ?_
      refine gm_iconst (v := 2) C dX8_unlikePairs_9 (by decide) ?_
      refine gm_idiv C dX8_unlikePairs_10 (by decide) ?_
      refine gm_icmp_ge C 45 dX8_unlikePairs_11 (by decide) (fun c4 => ?_) (fun c4 => ?_)
      · have hf := gm_it _ c4 hf
        cases hf
        exact gm_lvp [1] rfl K
      · have hf := gm_if _ c4 hf
        refine gm_aload_n C dX8_unlikePairs_14 rfl 0 rfl ?_
        refine gm_getr (j := 1) (u := (t + 1)) C (gm_tk_l0 ht) (gm_tk_k0 ht) kc_8 (k := 0) rfl (by decide) rfl rfl wl_191 dX8_unlikePairs_15 ?_
        refine gm_iload_n C dX8_unlikePairs_18 rfl 2 rfl ?_
        obtain ⟨h5, hf⟩ := gm_ck_s hf
        refine gm_iald C (gm_tk_l1 ht) (gm_tk_k1 ht) (gm_tk_n1 ht) h5 dX8_unlikePairs_19 ?_
        refine gm_aload_n C dX8_unlikePairs_20 rfl 0 rfl ?_
        refine gm_getr (j := 1) (u := (t + 1)) C (gm_tk_l0 ht) (gm_tk_k0 ht) kc_8 (k := 0) rfl (by decide) rfl rfl wl_191 dX8_unlikePairs_21 ?_
        refine gm_aload_n C dX8_unlikePairs_24 rfl 0 rfl ?_
        refine gm_geti C (gm_tk_l0 ht) (gm_tk_k0 ht) kc_8 (k := 1) rfl (by decide) rfl wl_192 dX8_unlikePairs_25 ?_
        refine gm_iconst (v := 1) C dX8_unlikePairs_28 (by decide) ?_
        refine gm_isub C dX8_unlikePairs_29 ?_
        refine gm_iload_n C dX8_unlikePairs_30 rfl 2 rfl ?_
        refine gm_isub C dX8_unlikePairs_31 ?_
        obtain ⟨h6, hf⟩ := gm_ck_s hf
        refine gm_iald C (gm_tk_l1 ht) (gm_tk_k1 ht) (gm_tk_n1 ht) h6 dX8_unlikePairs_32 ?_
        obtain ⟨x7, hx, hf⟩ := gm_bp1_s hf
        have key : gm_G p l e { frames := 0, cells := 0, slots := 0, locals := 0 } s m args below meth c (MQ below (gm_Q cf ad gm_sC 106 (some (.int r)) S) args s 0 0 (gm_A ad 106)) cf ad gm_sC 106 3 S 39 [(0, .ref (ad t)), (1, .int x7), (2, .int y2)] [] := by
          obtain ⟨x8, ex8, hf⟩ := gm_lt_s hf
          refine gm_iinc (v := x8) (lv' := [(2, .int x8), (0, .ref (ad t)), (1, .int x7)]) (j := 2) C dX8_unlikePairs_39 rfl (by rw [ex8]; rfl) (by decide) rfl ?_
          refine gm_goto C 4 dX8_unlikePairs_42 (by decide) ?_
          exact gm_lvp [1, 2, 0] rfl (ih _ _ _ hf K)
        have hf := hx
        refine gm_icmp_eq C 39 dX8_unlikePairs_33 (by decide) (fun c9 => ?_) (fun c9 => ?_)
        · have hf := gm_it _ c9 hf
          cases hf
          exact gm_lvp [0, 1, 2] rfl key
        · have hf := gm_if _ c9 hf
          obtain ⟨x10, ex10, hf⟩ := gm_lt_s hf
          refine gm_iinc (v := x10) (lv' := [(1, .int x10), (0, .ref (ad t)), (2, .int y2)]) (j := 1) C dX8_unlikePairs_36 rfl (by rw [ex10]; rfl) (by decide) rfl ?_
          cases hf
          exact gm_lvp [1, 0, 2] rfl key
  obtain ⟨z3, hx, hf⟩ := gm_bp1_s hf
  refine gm_lvp [2, 1, 0] rfl (L4 fl _ _ _ hx ?_)
  refine gm_iload_n C dX8_unlikePairs_45 rfl 0 rfl ?_
  exact gm_iretK C hr rfl dX8_unlikePairs_46 hf
theorem dX8_timesThere_0 : decode cX8_timesThere 0 = .ok (.iconst 0, 1) := by decide +kernel
theorem dX8_timesThere_1 : decode cX8_timesThere 1 = .ok (.istore_n 2, 1) := by decide +kernel
theorem dX8_timesThere_2 : decode cX8_timesThere 2 = .ok (.iconst 0, 1) := by decide +kernel
theorem dX8_timesThere_3 : decode cX8_timesThere 3 = .ok (.istore_n 3, 1) := by decide +kernel
theorem dX8_timesThere_4 : decode cX8_timesThere 4 = .ok (.iload_n 3, 1) := by decide +kernel
theorem dX8_timesThere_5 : decode cX8_timesThere 5 = .ok (.aload_n 0, 1) := by decide +kernel
theorem dX8_timesThere_6 : decode cX8_timesThere 6 = .ok (.getfield 19, 3) := by decide +kernel
theorem dX8_timesThere_9 : decode cX8_timesThere 9 = .ok (.if_icmp .ge 22, 3) := by decide +kernel
theorem dX8_timesThere_12 : decode cX8_timesThere 12 = .ok (.aload_n 0, 1) := by decide +kernel
theorem dX8_timesThere_13 : decode cX8_timesThere 13 = .ok (.getfield 7, 3) := by decide +kernel
theorem dX8_timesThere_16 : decode cX8_timesThere 16 = .ok (.iload_n 3, 1) := by decide +kernel
theorem dX8_timesThere_17 : decode cX8_timesThere 17 = .ok (.iaload, 1) := by decide +kernel
theorem dX8_timesThere_18 : decode cX8_timesThere 18 = .ok (.iload_n 1, 1) := by decide +kernel
theorem dX8_timesThere_19 : decode cX8_timesThere 19 = .ok (.if_icmp .ne 6, 3) := by decide +kernel
theorem dX8_timesThere_22 : decode cX8_timesThere 22 = .ok (.iinc 2 1, 3) := by decide +kernel
theorem dX8_timesThere_25 : decode cX8_timesThere 25 = .ok (.iinc 3 1, 3) := by decide +kernel
theorem dX8_timesThere_28 : decode cX8_timesThere 28 = .ok (.goto (-24), 3) := by decide +kernel
theorem dX8_timesThere_31 : decode cX8_timesThere 31 = .ok (.iload_n 2, 1) := by decide +kernel
theorem dX8_timesThere_32 : decode cX8_timesThere 32 = .ok (.ireturn, 1) := by decide +kernel
def Tk_timesThere_L4_b (t : Nat) (a0 : Int32) (S : gm_M) (rec : Int32 → Int32 → Option (Int32)) (y1 : Int32) (y2 : Int32) : Option (Int32) :=
  if S.1 t 1 ≤ y2 then (
    some (y1)
  ) else (
    gm_ck (y2) 4 <|
    gm_bp1 (show Option (Int32) from
      if S.1 (t + 1) y2.toNatClampNeg = a0 then (
        gm_lt (α := Int32) (y1 + 1) fun x9 =>
        some (x9)
      ) else (
        some (y1)
      )
    ) fun x6 =>
    gm_lt (α := Int32) (y2 + 1) fun x7 =>
    rec x6 x7
  )
def Tk_timesThere_L4 (t : Nat) (a0 : Int32) (S : gm_M) : Nat → Int32 → Int32 → Option (Int32)
  | 0 => fun _ _ => none
  | n + 1 => Tk_timesThere_L4_b t a0 S (Tk_timesThere_L4 t a0 S n)
def Tk_timesThere (fl : Nat) (t : Nat) (a0 : Int32) (S : gm_M) : Option Int32 :=
  gm_bp1 (Tk_timesThere_L4 t a0 S fl 0 0) fun z3 =>
  some (z3)
set_option maxHeartbeats 4000000 in
set_option maxRecDepth 100000 in
theorem Tk_timesThere_c (l : Launch) (cf : gm_C) (ad : Nat → Nat) {fl : Nat} {t : Nat} (ht : gm_isTk t) {a0 : Int32} {S : gm_M} {r : Int32}  (hf : Tk_timesThere fl t a0 S = some r) : gm_Met l yX8_timesThere cX8_timesThere 4 (some .int) 0 0 cf ad gm_sC 106 [.ref (ad t), .int a0] S (some (.int r)) S := by
  refine gm_met (by decide +kernel) (Nat.le_of_ble_eq_true rfl) ?_
  intro p e s m args below meth c C hr
  have C : gm_F p s m args meth c cf ad 106 cX8_timesThere 4 RX8 := C
  refine gm_lve (lv' := [(0, .ref (ad t)), (1, .int a0)]) rfl ?_
  unfold Tk_timesThere at hf
  refine gm_iconst (v := 0) C dX8_timesThere_0 (by decide) ?_
  refine gm_istore_n (lv' := [(2, .int 0), (0, .ref (ad t)), (1, .int a0)]) C dX8_timesThere_1 rfl (by decide) rfl ?_
  refine gm_iconst (v := 0) C dX8_timesThere_2 (by decide) ?_
  refine gm_istore_n (lv' := [(3, .int 0), (2, .int 0), (0, .ref (ad t)), (1, .int a0)]) C dX8_timesThere_3 rfl (by decide) rfl ?_
  have L4 : ∀ (n : Nat) (y1 : Int32) (y2 : Int32) (z3 : Int32), Tk_timesThere_L4 t a0 S n y1 y2 = some (z3) → gm_G p l e { frames := 0, cells := 0, slots := 0, locals := 0 } s m args below meth c (MQ below (gm_Q cf ad gm_sC 106 (some (.int r)) S) args s 0 0 (gm_A ad 106)) cf ad gm_sC 106 4 S 31 [(2, .int z3)] [] → gm_G p l e { frames := 0, cells := 0, slots := 0, locals := 0 } s m args below meth c (MQ below (gm_Q cf ad gm_sC 106 (some (.int r)) S) args s 0 0 (gm_A ad 106)) cf ad gm_sC 106 4 S 4 [(0, .ref (ad t)), (1, .int a0), (2, .int y1), (3, .int y2)] [] := by
    intro n
    induction n with
    | zero => intro y1 y2 z3 hf K; cases (show (none : Option _) = some _ from hf)
    | succ n ih =>
      intro y1 y2 z3 hf K
      have hf : Tk_timesThere_L4_b t a0 S (Tk_timesThere_L4 t a0 S n) y1 y2 = some (z3) := hf
      unfold Tk_timesThere_L4_b at hf
      refine gm_iload_n C dX8_timesThere_4 rfl 3 rfl ?_
      refine gm_aload_n C dX8_timesThere_5 rfl 0 rfl ?_
      refine gm_geti C (gm_tk_l0 ht) (gm_tk_k0 ht) kc_8 (k := 1) rfl (by decide) rfl wl_192 dX8_timesThere_6 ?_
      refine gm_icmp_ge C 31 dX8_timesThere_9 (by decide) (fun c4 => ?_) (fun c4 => ?_)
      · have hf := gm_it _ c4 hf
        cases hf
        exact gm_lvp [2] rfl K
      · have hf := gm_if _ c4 hf
        refine gm_aload_n C dX8_timesThere_12 rfl 0 rfl ?_
        refine gm_getr (j := 1) (u := (t + 1)) C (gm_tk_l0 ht) (gm_tk_k0 ht) kc_8 (k := 0) rfl (by decide) rfl rfl wl_191 dX8_timesThere_13 ?_
        refine gm_iload_n C dX8_timesThere_16 rfl 3 rfl ?_
        obtain ⟨h5, hf⟩ := gm_ck_s hf
        refine gm_iald C (gm_tk_l1 ht) (gm_tk_k1 ht) (gm_tk_n1 ht) h5 dX8_timesThere_17 ?_
        refine gm_iload_n C dX8_timesThere_18 rfl 1 rfl ?_
        obtain ⟨x6, hx, hf⟩ := gm_bp1_s hf
        have key : gm_G p l e { frames := 0, cells := 0, slots := 0, locals := 0 } s m args below meth c (MQ below (gm_Q cf ad gm_sC 106 (some (.int r)) S) args s 0 0 (gm_A ad 106)) cf ad gm_sC 106 4 S 25 [(0, .ref (ad t)), (1, .int a0), (2, .int x6), (3, .int y2)] [] := by
          obtain ⟨x7, ex7, hf⟩ := gm_lt_s hf
          refine gm_iinc (v := x7) (lv' := [(3, .int x7), (0, .ref (ad t)), (1, .int a0), (2, .int x6)]) (j := 3) C dX8_timesThere_25 rfl (by rw [ex7]; rfl) (by decide) rfl ?_
          refine gm_goto C 4 dX8_timesThere_28 (by decide) ?_
          exact gm_lvp [1, 2, 3, 0] rfl (ih _ _ _ hf K)
        have hf := hx
        refine gm_icmp_ne C 25 dX8_timesThere_19 (by decide) (fun c8 => ?_) (fun c8 => ?_)
        · have hf := gm_if _ c8 hf
          cases hf
          exact gm_lvp [0, 1, 2, 3] rfl key
        · have hf := gm_it _ c8 hf
          obtain ⟨x9, ex9, hf⟩ := gm_lt_s hf
          refine gm_iinc (v := x9) (lv' := [(2, .int x9), (0, .ref (ad t)), (1, .int a0), (3, .int y2)]) (j := 2) C dX8_timesThere_22 rfl (by rw [ex9]; rfl) (by decide) rfl ?_
          cases hf
          exact gm_lvp [1, 2, 0, 3] rfl key
  obtain ⟨z3, hx, hf⟩ := gm_bp1_s hf
  refine gm_lvp [2, 3, 1, 0] rfl (L4 fl _ _ _ hx ?_)
  refine gm_iload_n C dX8_timesThere_31 rfl 0 rfl ?_
  exact gm_iretK C hr rfl dX8_timesThere_32 hf
