theorem dX11_drift_0 : decode cX11_drift 0 = .ok (.iload_n 1, 1) := by decide +kernel
theorem dX11_drift_1 : decode cX11_drift 1 = .ok (.i2l, 1) := by decide +kernel
theorem dX11_drift_2 : decode cX11_drift 2 = .ok (.lconst 1, 1) := by decide +kernel
theorem dX11_drift_3 : decode cX11_drift 3 = .ok (.ldc2_w 279, 3) := by decide +kernel
theorem dX11_drift_6 : decode cX11_drift 6 = .ok (.invokestatic 69, 3) := by decide +kernel
theorem dX11_drift_9 : decode cX11_drift 9 = .ok (.ifCond .ne 6, 3) := by decide +kernel
theorem dX11_drift_12 : decode cX11_drift 12 = .ok (.ldc 96, 2) := by decide +kernel
theorem dX11_drift_14 : decode cX11_drift 14 = .ok (.ireturn, 1) := by decide +kernel
theorem dX11_drift_15 : decode cX11_drift 15 = .ok (.aload_n 0, 1) := by decide +kernel
theorem dX11_drift_16 : decode cX11_drift 16 = .ok (.getfield 63, 3) := by decide +kernel
theorem dX11_drift_19 : decode cX11_drift 19 = .ok (.ifCond .ne 7, 3) := by decide +kernel
theorem dX11_drift_22 : decode cX11_drift 22 = .ok (.ldc_w 272, 3) := by decide +kernel
theorem dX11_drift_25 : decode cX11_drift 25 = .ok (.ireturn, 1) := by decide +kernel
theorem dX11_drift_26 : decode cX11_drift 26 = .ok (.aload_n 0, 1) := by decide +kernel
theorem dX11_drift_27 : decode cX11_drift 27 = .ok (.getfield 13, 3) := by decide +kernel
theorem dX11_drift_30 : decode cX11_drift 30 = .ok (.bipush 41, 2) := by decide +kernel
theorem dX11_drift_32 : decode cX11_drift 32 = .ok (.iaload, 1) := by decide +kernel
theorem dX11_drift_33 : decode cX11_drift 33 = .ok (.sipush 9000, 3) := by decide +kernel
theorem dX11_drift_36 : decode cX11_drift 36 = .ok (.if_icmp .le 6, 3) := by decide +kernel
theorem dX11_drift_39 : decode cX11_drift 39 = .ok (.ldc 100, 2) := by decide +kernel
theorem dX11_drift_41 : decode cX11_drift 41 = .ok (.ireturn, 1) := by decide +kernel
theorem dX11_drift_42 : decode cX11_drift 42 = .ok (.aload_n 0, 1) := by decide +kernel
theorem dX11_drift_43 : decode cX11_drift 43 = .ok (.invokevirtual 273, 3) := by decide +kernel
theorem dX11_drift_46 : decode cX11_drift 46 = .ok (.iconst 0, 1) := by decide +kernel
theorem dX11_drift_47 : decode cX11_drift 47 = .ok (.istore_n 2, 1) := by decide +kernel
theorem dX11_drift_48 : decode cX11_drift 48 = .ok (.iload_n 2, 1) := by decide +kernel
theorem dX11_drift_49 : decode cX11_drift 49 = .ok (.iload_n 1, 1) := by decide +kernel
theorem dX11_drift_50 : decode cX11_drift 50 = .ok (.if_icmp .ge 38, 3) := by decide +kernel
theorem dX11_drift_53 : decode cX11_drift 53 = .ok (.aload_n 0, 1) := by decide +kernel
theorem dX11_drift_54 : decode cX11_drift 54 = .ok (.getfield 73, 3) := by decide +kernel
theorem dX11_drift_57 : decode cX11_drift 57 = .ok (.ifCond .le 14, 3) := by decide +kernel
theorem dX11_drift_60 : decode cX11_drift 60 = .ok (.aload_n 0, 1) := by decide +kernel
theorem dX11_drift_61 : decode cX11_drift 61 = .ok (.getfield 76, 3) := by decide +kernel
theorem dX11_drift_64 : decode cX11_drift 64 = .ok (.ifCond .le 7, 3) := by decide +kernel
theorem dX11_drift_67 : decode cX11_drift 67 = .ok (.aload_n 0, 1) := by decide +kernel
theorem dX11_drift_68 : decode cX11_drift 68 = .ok (.invokevirtual 296, 3) := by decide +kernel
theorem dX11_drift_71 : decode cX11_drift 71 = .ok (.aload_n 0, 1) := by decide +kernel
theorem dX11_drift_72 : decode cX11_drift 72 = .ok (.getfield 13, 3) := by decide +kernel
theorem dX11_drift_75 : decode cX11_drift 75 = .ok (.bipush 41, 2) := by decide +kernel
theorem dX11_drift_77 : decode cX11_drift 77 = .ok (.dup2, 1) := by decide +kernel
theorem dX11_drift_78 : decode cX11_drift 78 = .ok (.iaload, 1) := by decide +kernel
theorem dX11_drift_79 : decode cX11_drift 79 = .ok (.iconst 1, 1) := by decide +kernel
theorem dX11_drift_80 : decode cX11_drift 80 = .ok (.iadd, 1) := by decide +kernel
theorem dX11_drift_81 : decode cX11_drift 81 = .ok (.iastore, 1) := by decide +kernel
theorem dX11_drift_82 : decode cX11_drift 82 = .ok (.iinc 2 1, 3) := by decide +kernel
theorem dX11_drift_85 : decode cX11_drift 85 = .ok (.goto (-37), 3) := by decide +kernel
theorem dX11_drift_88 : decode cX11_drift 88 = .ok (.aload_n 0, 1) := by decide +kernel
theorem dX11_drift_89 : decode cX11_drift 89 = .ok (.getfield 13, 3) := by decide +kernel
theorem dX11_drift_92 : decode cX11_drift 92 = .ok (.bipush 41, 2) := by decide +kernel
theorem dX11_drift_94 : decode cX11_drift 94 = .ok (.iaload, 1) := by decide +kernel
theorem dX11_drift_95 : decode cX11_drift 95 = .ok (.ireturn, 1) := by decide +kernel
def Mo_drift_L48_b (fl : Nat) (a0 : Int32) (rec : Int32 → gm_M → Option (gm_M)) (y7 : Int32) (S8 : gm_M) : Option (gm_M) :=
  if a0 ≤ y7 then (
    some (S8)
  ) else (
    gm_bp1 (show Option (gm_M) from
      if S8.1 0 3 ≤ 0 then (
        some (S8)
      ) else (
        if S8.1 0 4 ≤ 0 then (
          some (S8)
        ) else (
          gm_bp1 (Mo_chance fl S8) fun S18 =>
          some (S18)
        )
      )
    ) fun S11 =>
    gm_ck (41) 42 <|
    gm_ck (41) 42 <|
    gm_lt (α := gm_M) (gm_ui S11 2 ((41 : Int32).toNatClampNeg) ((S11.1 2 (41 : Int32).toNatClampNeg) + 1)) fun S14 =>
    gm_lt (α := Int32) (y7 + 1) fun x15 =>
    rec x15 S14
  )
def Mo_drift_L48 (fl : Nat) (a0 : Int32) : Nat → Int32 → gm_M → Option (gm_M)
  | 0 => fun _ _ => none
  | n + 1 => Mo_drift_L48_b fl a0 (Mo_drift_L48 fl a0 n)
def Mo_drift (fl : Nat) (a0 : Int32) (S : gm_M) : Option (Int32 × gm_M) :=
  gm_bp1 (Mo_in ((a0 : Int32).toInt64) 1 60) fun v1 =>
  if v1 = 0 then (
    some ((-1000000002), S)
  ) else (
    if S.1 0 0 = 0 then (
      some ((-1000000003), S)
    ) else (
      gm_ck (41) 42 <|
      if S.1 2 (41 : Int32).toNatClampNeg ≤ 9000 then (
        gm_bp1 (Mo_remember fl S) fun S6 =>
        gm_bp1 (Mo_drift_L48 fl a0 fl 0 S6) fun S9 =>
        gm_ck (41) 42 <|
        some (S9.1 2 (41 : Int32).toNatClampNeg, S9)
      ) else (
        some ((-1000000004), S)
      )
    )
  )
set_option maxHeartbeats 4000000 in
set_option maxRecDepth 100000 in
theorem Mo_drift_c (l : Launch) (cf : gm_C) (ad : Nat → Nat) {fl : Nat}   {a0 : Int32} {S : gm_M} {r : Int32} {S'  : gm_M} (hf : Mo_drift fl a0 S = some (r, S')) : gm_Met l yX11_drift cX11_drift 3 (some .int) 8 190 cf ad gm_sM 17 [.ref (ad 0), .int a0] S (some (.int r)) S' := by
  refine gm_met (by decide +kernel) (Nat.le_of_ble_eq_true rfl) ?_
  intro p e s m args below meth c C hr
  have C : gm_F p s m args meth c cf ad 17 cX11_drift 3 RX11 := C
  refine gm_lve (lv' := [(0, .ref (ad 0)), (1, .int a0)]) rfl ?_
  unfold Mo_drift at hf
  refine gm_iload_n C dX11_drift_0 rfl 1 rfl ?_
  refine gm_i2l C dX11_drift_1 rfl ?_
  refine gm_lconst (v := 1) C dX11_drift_2 (by decide) ?_
  refine gm_ldc2 (v := 60) C wl_1192 dX11_drift_3 ?_
  obtain ⟨v1, ev1, hf⟩ := gm_bp1_s hf
  refine gm_callSi (As := [.long ((a0 : Int32).toInt64), .long 1, .long 60]) C (Mo_in_c l cf ad ev1 (S := S)) wy_Mo_in wl_957 rfl ⟨(Nat.le_of_ble_eq_true rfl), (Nat.le_of_ble_eq_true rfl)⟩ rfl (Nat.le_of_ble_eq_true rfl) dX11_drift_6 ?_
  refine gm_if_ne C 15 dX11_drift_9 (by decide) (fun c2 => ?_) (fun c2 => ?_)
  · have hf := gm_if _ c2 hf
    refine gm_aload_n C dX11_drift_15 rfl 0 rfl ?_
    refine gm_geti C (Nat.le_of_ble_eq_true rfl) rfl kc_11 (k := 0) rfl (by decide) rfl wl_840 dX11_drift_16 ?_
    refine gm_if_ne C 26 dX11_drift_19 (by decide) (fun c3 => ?_) (fun c3 => ?_)
    · have hf := gm_if _ c3 hf
      refine gm_aload_n C dX11_drift_26 rfl 0 rfl ?_
      refine gm_getr (j := 2) (u := 2) C (Nat.le_of_ble_eq_true rfl) rfl kc_11 (k := 6) rfl (by decide) rfl rfl wl_846 dX11_drift_27 ?_
      refine gm_bipush (v := 41) C dX11_drift_30 (by decide) ?_
      obtain ⟨h4, hf⟩ := gm_ck_s hf
      refine gm_iald C (Nat.le_of_ble_eq_true rfl) rfl rfl h4 dX11_drift_32 ?_
      refine gm_sipush (v := 9000) C dX11_drift_33 (by decide) ?_
      refine gm_icmp_le C 42 dX11_drift_36 (by decide) (fun c5 => ?_) (fun c5 => ?_)
      · have hf := gm_it _ c5 hf
        refine gm_aload_n C dX11_drift_42 rfl 0 rfl ?_
        obtain ⟨S6, eS6, hf⟩ := gm_bp1_s hf
        refine gm_callVv (As := []) C (Mo_remember_c l cf ad eS6) (Nat.le_of_ble_eq_true rfl) rfl kc_11 wy_Mo_remember rfl wl_1176 rfl ⟨(Nat.le_of_ble_eq_true rfl), (Nat.le_of_ble_eq_true rfl)⟩ rfl (Nat.le_of_ble_eq_true rfl) dX11_drift_43 ?_
        refine gm_iconst (v := 0) C dX11_drift_46 (by decide) ?_
        refine gm_istore_n (lv' := [(2, .int 0), (0, .ref (ad 0)), (1, .int a0)]) C dX11_drift_47 rfl (by decide) rfl ?_
        have L48 : ∀ (n : Nat) (y7 : Int32) (S8 : gm_M) (S9 : gm_M), Mo_drift_L48 fl a0 n y7 S8 = some (S9) → gm_G p l e { frames := 8, cells := 0, slots := 0, locals := 190 } s m args below meth c (MQ below (gm_Q cf ad gm_sM 17 (some (.int r)) S') args s 0 0 (gm_A ad 17)) cf ad gm_sM 17 3 S9 88 [(0, .ref (ad 0))] [] → gm_G p l e { frames := 8, cells := 0, slots := 0, locals := 190 } s m args below meth c (MQ below (gm_Q cf ad gm_sM 17 (some (.int r)) S') args s 0 0 (gm_A ad 17)) cf ad gm_sM 17 3 S8 48 [(0, .ref (ad 0)), (1, .int a0), (2, .int y7)] [] := by
          intro n
          induction n with
          | zero => intro y7 S8 S9 hf K; cases (show (none : Option _) = some _ from hf)
          | succ n ih =>
            intro y7 S8 S9 hf K
            have hf : Mo_drift_L48_b fl a0 (Mo_drift_L48 fl a0 n) y7 S8 = some (S9) := hf
            unfold Mo_drift_L48_b at hf
            refine gm_iload_n C dX11_drift_48 rfl 2 rfl ?_
            refine gm_iload_n C dX11_drift_49 rfl 1 rfl ?_
            refine gm_icmp_ge C 88 dX11_drift_50 (by decide) (fun c10 => ?_) (fun c10 => ?_)
            · have hf := gm_it _ c10 hf
              cases hf
              exact gm_lvp [0] rfl K
            · have hf := gm_if _ c10 hf
              refine gm_aload_n C dX11_drift_53 rfl 0 rfl ?_
              refine gm_geti C (Nat.le_of_ble_eq_true rfl) rfl kc_11 (k := 3) rfl (by decide) rfl wl_843 dX11_drift_54 ?_
              obtain ⟨S11, hx, hf⟩ := gm_bp1_s hf
              have key : gm_G p l e { frames := 8, cells := 0, slots := 0, locals := 190 } s m args below meth c (MQ below (gm_Q cf ad gm_sM 17 (some (.int r)) S') args s 0 0 (gm_A ad 17)) cf ad gm_sM 17 3 S11 71 [(0, .ref (ad 0)), (1, .int a0), (2, .int y7)] [] := by
                refine gm_aload_n C dX11_drift_71 rfl 0 rfl ?_
                refine gm_getr (j := 2) (u := 2) C (Nat.le_of_ble_eq_true rfl) rfl kc_11 (k := 6) rfl (by decide) rfl rfl wl_846 dX11_drift_72 ?_
                refine gm_bipush (v := 41) C dX11_drift_75 (by decide) ?_
                refine gm_dup2_11 C dX11_drift_77 rfl rfl ?_
                obtain ⟨h12, hf⟩ := gm_ck_s hf
                refine gm_iald C (Nat.le_of_ble_eq_true rfl) rfl rfl h12 dX11_drift_78 ?_
                refine gm_iconst (v := 1) C dX11_drift_79 (by decide) ?_
                refine gm_iadd C dX11_drift_80 ?_
                obtain ⟨h13, hf⟩ := gm_ck_s hf
                refine gm_iast C (Nat.le_of_ble_eq_true rfl) rfl rfl h13 dX11_drift_81 ?_
                obtain ⟨S14, eS14, hf⟩ := gm_lt_s hf
                refine gm_topm eS14 ?_
                obtain ⟨x15, ex15, hf⟩ := gm_lt_s hf
                refine gm_iinc (v := x15) (lv' := [(2, .int x15), (0, .ref (ad 0)), (1, .int a0)]) (j := 2) C dX11_drift_82 rfl (by rw [ex15]; rfl) (by decide) rfl ?_
                refine gm_goto C 48 dX11_drift_85 (by decide) ?_
                exact gm_lvp [1, 2, 0] rfl (ih _ _ _ hf K)
              have hf := hx
              refine gm_if_le C 71 dX11_drift_57 (by decide) (fun c16 => ?_) (fun c16 => ?_)
              · have hf := gm_it _ c16 hf
                cases hf
                exact gm_lvp [0, 1, 2] rfl key
              · have hf := gm_if _ c16 hf
                refine gm_aload_n C dX11_drift_60 rfl 0 rfl ?_
                refine gm_geti C (Nat.le_of_ble_eq_true rfl) rfl kc_11 (k := 4) rfl (by decide) rfl wl_844 dX11_drift_61 ?_
                refine gm_if_le C 71 dX11_drift_64 (by decide) (fun c17 => ?_) (fun c17 => ?_)
                · have hf := gm_it _ c17 hf
                  cases hf
                  exact gm_lvp [0, 1, 2] rfl key
                · have hf := gm_if _ c17 hf
                  refine gm_aload_n C dX11_drift_67 rfl 0 rfl ?_
                  obtain ⟨S18, eS18, hf⟩ := gm_bp1_s hf
                  refine gm_callVv (As := []) C (Mo_chance_c l cf ad eS18) (Nat.le_of_ble_eq_true rfl) rfl kc_11 wy_Mo_chance rfl wl_1214 rfl ⟨(Nat.le_of_ble_eq_true rfl), (Nat.le_of_ble_eq_true rfl)⟩ rfl (Nat.le_of_ble_eq_true rfl) dX11_drift_68 ?_
                  cases hf
                  exact gm_lvp [0, 1, 2] rfl key
        obtain ⟨S9, hx, hf⟩ := gm_bp1_s hf
        refine gm_lvp [1, 2, 0] rfl (L48 fl _ _ _ hx ?_)
        refine gm_aload_n C dX11_drift_88 rfl 0 rfl ?_
        refine gm_getr (j := 2) (u := 2) C (Nat.le_of_ble_eq_true rfl) rfl kc_11 (k := 6) rfl (by decide) rfl rfl wl_846 dX11_drift_89 ?_
        refine gm_bipush (v := 41) C dX11_drift_92 (by decide) ?_
        obtain ⟨h19, hf⟩ := gm_ck_s hf
        refine gm_iald C (Nat.le_of_ble_eq_true rfl) rfl rfl h19 dX11_drift_94 ?_
        exact gm_iret C hr rfl dX11_drift_95 hf
      · have hf := gm_if _ c5 hf
        refine gm_ldc (v := (-1000000004)) C wl_961 dX11_drift_39 ?_
        exact gm_iret C hr rfl dX11_drift_41 hf
    · have hf := gm_it _ c3 hf
      refine gm_ldcw (v := (-1000000003)) C wl_1175 dX11_drift_22 ?_
      exact gm_iret C hr rfl dX11_drift_25 hf
  · have hf := gm_it _ c2 hf
    refine gm_ldc (v := (-1000000002)) C wl_960 dX11_drift_12 ?_
    exact gm_iret C hr rfl dX11_drift_14 hf
theorem dX11_undo_0 : decode cX11_undo 0 = .ok (.aload_n 0, 1) := by decide +kernel
theorem dX11_undo_1 : decode cX11_undo 1 = .ok (.getfield 191, 3) := by decide +kernel
theorem dX11_undo_4 : decode cX11_undo 4 = .ok (.ifCond .ne 7, 3) := by decide +kernel
theorem dX11_undo_7 : decode cX11_undo 7 = .ok (.ldc_w 272, 3) := by decide +kernel
theorem dX11_undo_10 : decode cX11_undo 10 = .ok (.ireturn, 1) := by decide +kernel
theorem dX11_undo_11 : decode cX11_undo 11 = .ok (.aload_n 0, 1) := by decide +kernel
theorem dX11_undo_12 : decode cX11_undo 12 = .ok (.dup, 1) := by decide +kernel
theorem dX11_undo_13 : decode cX11_undo 13 = .ok (.getfield 191, 3) := by decide +kernel
theorem dX11_undo_16 : decode cX11_undo 16 = .ok (.iconst 1, 1) := by decide +kernel
theorem dX11_undo_17 : decode cX11_undo 17 = .ok (.isub, 1) := by decide +kernel
theorem dX11_undo_18 : decode cX11_undo 18 = .ok (.putfield 191, 3) := by decide +kernel
theorem dX11_undo_21 : decode cX11_undo 21 = .ok (.iconst 0, 1) := by decide +kernel
theorem dX11_undo_22 : decode cX11_undo 22 = .ok (.istore_n 1, 1) := by decide +kernel
theorem dX11_undo_23 : decode cX11_undo 23 = .ok (.iload_n 1, 1) := by decide +kernel
theorem dX11_undo_24 : decode cX11_undo 24 = .ok (.bipush 42, 2) := by decide +kernel
theorem dX11_undo_26 : decode cX11_undo 26 = .ok (.if_icmp .ge 29, 3) := by decide +kernel
theorem dX11_undo_29 : decode cX11_undo 29 = .ok (.aload_n 0, 1) := by decide +kernel
theorem dX11_undo_30 : decode cX11_undo 30 = .ok (.getfield 13, 3) := by decide +kernel
theorem dX11_undo_33 : decode cX11_undo 33 = .ok (.iload_n 1, 1) := by decide +kernel
theorem dX11_undo_34 : decode cX11_undo 34 = .ok (.aload_n 0, 1) := by decide +kernel
theorem dX11_undo_35 : decode cX11_undo 35 = .ok (.getfield 41, 3) := by decide +kernel
theorem dX11_undo_38 : decode cX11_undo 38 = .ok (.bipush 42, 2) := by decide +kernel
theorem dX11_undo_40 : decode cX11_undo 40 = .ok (.aload_n 0, 1) := by decide +kernel
theorem dX11_undo_41 : decode cX11_undo 41 = .ok (.getfield 191, 3) := by decide +kernel
theorem dX11_undo_44 : decode cX11_undo 44 = .ok (.imul, 1) := by decide +kernel
theorem dX11_undo_45 : decode cX11_undo 45 = .ok (.iload_n 1, 1) := by decide +kernel
theorem dX11_undo_46 : decode cX11_undo 46 = .ok (.iadd, 1) := by decide +kernel
theorem dX11_undo_47 : decode cX11_undo 47 = .ok (.iaload, 1) := by decide +kernel
theorem dX11_undo_48 : decode cX11_undo 48 = .ok (.iastore, 1) := by decide +kernel
theorem dX11_undo_49 : decode cX11_undo 49 = .ok (.iinc 1 1, 3) := by decide +kernel
theorem dX11_undo_52 : decode cX11_undo 52 = .ok (.goto (-29), 3) := by decide +kernel
theorem dX11_undo_55 : decode cX11_undo 55 = .ok (.aload_n 0, 1) := by decide +kernel
theorem dX11_undo_56 : decode cX11_undo 56 = .ok (.getfield 191, 3) := by decide +kernel
theorem dX11_undo_59 : decode cX11_undo 59 = .ok (.ireturn, 1) := by decide +kernel
def Mo_undo_L23_b  (rec : Int32 → gm_M → Option (gm_M)) (y3 : Int32) (S4 : gm_M) : Option (gm_M) :=
  if (42 : Int32) ≤ y3 then (
    some (S4)
  ) else (
    gm_ck ((42 * (S4.1 0 27)) + y3) 672 <|
    gm_ck (y3) 42 <|
    gm_lt (α := gm_M) (gm_ui S4 2 (y3.toNatClampNeg) (S4.1 10 ((42 * (S4.1 0 27)) + y3).toNatClampNeg)) fun S9 =>
    gm_lt (α := Int32) (y3 + 1) fun x10 =>
    rec x10 S9
  )
def Mo_undo_L23  : Nat → Int32 → gm_M → Option (gm_M)
  | 0 => fun _ _ => none
  | n + 1 => Mo_undo_L23_b  (Mo_undo_L23  n)
def Mo_undo (fl : Nat) (S : gm_M) : Option (Int32 × gm_M) :=
  if S.1 0 27 = 0 then (
    some ((-1000000003), S)
  ) else (
    gm_lt (α := gm_M) (gm_ui S 0 27 ((S.1 0 27) - 1)) fun S2 =>
    gm_bp1 (Mo_undo_L23  fl 0 S2) fun S5 =>
    some (S5.1 0 27, S5)
  )
set_option maxHeartbeats 4000000 in
set_option maxRecDepth 100000 in
theorem Mo_undo_c (l : Launch) (cf : gm_C) (ad : Nat → Nat) {fl : Nat}    {S : gm_M} {r : Int32} {S'  : gm_M} (hf : Mo_undo fl S = some (r, S')) : gm_Met l yX11_undo cX11_undo 2 (some .int) 0 0 cf ad gm_sM 17 [.ref (ad 0)] S (some (.int r)) S' := by
  refine gm_met (by decide +kernel) (Nat.le_of_ble_eq_true rfl) ?_
  intro p e s m args below meth c C hr
  have C : gm_F p s m args meth c cf ad 17 cX11_undo 2 RX11 := C
  refine gm_lve (lv' := [(0, .ref (ad 0))]) rfl ?_
  unfold Mo_undo at hf
  refine gm_aload_n C dX11_undo_0 rfl 0 rfl ?_
  refine gm_geti C (Nat.le_of_ble_eq_true rfl) rfl kc_11 (k := 27) rfl (by decide) rfl wl_867 dX11_undo_1 ?_
  refine gm_if_ne C 11 dX11_undo_4 (by decide) (fun c1 => ?_) (fun c1 => ?_)
  · have hf := gm_if _ c1 hf
    refine gm_aload_n C dX11_undo_11 rfl 0 rfl ?_
    refine gm_dup C dX11_undo_12 rfl ?_
    refine gm_geti C (Nat.le_of_ble_eq_true rfl) rfl kc_11 (k := 27) rfl (by decide) rfl wl_867 dX11_undo_13 ?_
    refine gm_iconst (v := 1) C dX11_undo_16 (by decide) ?_
    refine gm_isub C dX11_undo_17 ?_
    refine gm_puti C (Nat.le_of_ble_eq_true rfl) rfl kc_11 (k := 27) rfl (by decide) rfl rfl (kc_11.2.2.2.1 27 (by decide)) rfl rfl wl_867 dX11_undo_18 ?_
    obtain ⟨S2, eS2, hf⟩ := gm_lt_s hf
    refine gm_topm eS2 ?_
    refine gm_iconst (v := 0) C dX11_undo_21 (by decide) ?_
    refine gm_istore_n (lv' := [(1, .int 0), (0, .ref (ad 0))]) C dX11_undo_22 rfl (by decide) rfl ?_
    have L23 : ∀ (n : Nat) (y3 : Int32) (S4 : gm_M) (S5 : gm_M), Mo_undo_L23  n y3 S4 = some (S5) → gm_G p l e { frames := 0, cells := 0, slots := 0, locals := 0 } s m args below meth c (MQ below (gm_Q cf ad gm_sM 17 (some (.int r)) S') args s 0 0 (gm_A ad 17)) cf ad gm_sM 17 2 S5 55 [(0, .ref (ad 0))] [] → gm_G p l e { frames := 0, cells := 0, slots := 0, locals := 0 } s m args below meth c (MQ below (gm_Q cf ad gm_sM 17 (some (.int r)) S') args s 0 0 (gm_A ad 17)) cf ad gm_sM 17 2 S4 23 [(0, .ref (ad 0)), (1, .int y3)] [] := by
      intro n
      induction n with
      | zero => intro y3 S4 S5 hf K; cases (show (none : Option _) = some _ from hf)
      | succ n ih =>
        intro y3 S4 S5 hf K
        have hf : Mo_undo_L23_b  (Mo_undo_L23  n) y3 S4 = some (S5) := hf
        unfold Mo_undo_L23_b at hf
        refine gm_iload_n C dX11_undo_23 rfl 1 rfl ?_
        refine gm_bipush (v := 42) C dX11_undo_24 (by decide) ?_
        refine gm_icmp_ge C 55 dX11_undo_26 (by decide) (fun c6 => ?_) (fun c6 => ?_)
        · have hf := gm_it _ c6 hf
          cases hf
          exact gm_lvp [0] rfl K
        · have hf := gm_if _ c6 hf
          refine gm_aload_n C dX11_undo_29 rfl 0 rfl ?_
          refine gm_getr (j := 2) (u := 2) C (Nat.le_of_ble_eq_true rfl) rfl kc_11 (k := 6) rfl (by decide) rfl rfl wl_846 dX11_undo_30 ?_
          refine gm_iload_n C dX11_undo_33 rfl 1 rfl ?_
          refine gm_aload_n C dX11_undo_34 rfl 0 rfl ?_
          refine gm_getr (j := 10) (u := 10) C (Nat.le_of_ble_eq_true rfl) rfl kc_11 (k := 28) rfl (by decide) rfl rfl wl_868 dX11_undo_35 ?_
          refine gm_bipush (v := 42) C dX11_undo_38 (by decide) ?_
          refine gm_aload_n C dX11_undo_40 rfl 0 rfl ?_
          refine gm_geti C (Nat.le_of_ble_eq_true rfl) rfl kc_11 (k := 27) rfl (by decide) rfl wl_867 dX11_undo_41 ?_
          refine gm_imul C dX11_undo_44 ?_
          refine gm_iload_n C dX11_undo_45 rfl 1 rfl ?_
          refine gm_iadd C dX11_undo_46 ?_
          obtain ⟨h7, hf⟩ := gm_ck_s hf
          refine gm_iald C (Nat.le_of_ble_eq_true rfl) rfl rfl h7 dX11_undo_47 ?_
          obtain ⟨h8, hf⟩ := gm_ck_s hf
          refine gm_iast C (Nat.le_of_ble_eq_true rfl) rfl rfl h8 dX11_undo_48 ?_
          obtain ⟨S9, eS9, hf⟩ := gm_lt_s hf
          refine gm_topm eS9 ?_
          obtain ⟨x10, ex10, hf⟩ := gm_lt_s hf
          refine gm_iinc (v := x10) (lv' := [(1, .int x10), (0, .ref (ad 0))]) (j := 1) C dX11_undo_49 rfl (by rw [ex10]; rfl) (by decide) rfl ?_
          refine gm_goto C 23 dX11_undo_52 (by decide) ?_
          exact gm_lvp [1, 0] rfl (ih _ _ _ hf K)
    obtain ⟨S5, hx, hf⟩ := gm_bp1_s hf
    refine gm_lvp [1, 0] rfl (L23 fl _ _ _ hx ?_)
    refine gm_aload_n C dX11_undo_55 rfl 0 rfl ?_
    refine gm_geti C (Nat.le_of_ble_eq_true rfl) rfl kc_11 (k := 27) rfl (by decide) rfl wl_867 dX11_undo_56 ?_
    exact gm_iret C hr rfl dX11_undo_59 hf
  · have hf := gm_it _ c1 hf
    refine gm_ldcw (v := (-1000000003)) C wl_1175 dX11_undo_7 ?_
    exact gm_iret C hr rfl dX11_undo_10 hf
theorem dX11_next_0 : decode cX11_next 0 = .ok (.aload_n 0, 1) := by decide +kernel
theorem dX11_next_1 : decode cX11_next 1 = .ok (.iload_n 1, 1) := by decide +kernel
theorem dX11_next_2 : decode cX11_next 2 = .ok (.invokevirtual 265, 3) := by decide +kernel
theorem dX11_next_5 : decode cX11_next 5 = .ok (.ifCond .ne 6, 3) := by decide +kernel
theorem dX11_next_8 : decode cX11_next 8 = .ok (.ldc 96, 2) := by decide +kernel
theorem dX11_next_10 : decode cX11_next 10 = .ok (.ireturn, 1) := by decide +kernel
theorem dX11_next_11 : decode cX11_next 11 = .ok (.iload_n 1, 1) := by decide +kernel
theorem dX11_next_12 : decode cX11_next 12 = .ok (.istore_n 2, 1) := by decide +kernel
theorem dX11_next_13 : decode cX11_next 13 = .ok (.iload_n 2, 1) := by decide +kernel
theorem dX11_next_14 : decode cX11_next 14 = .ok (.aload_n 0, 1) := by decide +kernel
theorem dX11_next_15 : decode cX11_next 15 = .ok (.getfield 79, 3) := by decide +kernel
theorem dX11_next_18 : decode cX11_next 18 = .ok (.if_icmp .gt 19, 3) := by decide +kernel
theorem dX11_next_21 : decode cX11_next 21 = .ok (.aload_n 0, 1) := by decide +kernel
theorem dX11_next_22 : decode cX11_next 22 = .ok (.iload_n 2, 1) := by decide +kernel
theorem dX11_next_23 : decode cX11_next 23 = .ok (.invokevirtual 224, 3) := by decide +kernel
theorem dX11_next_26 : decode cX11_next 26 = .ok (.ifCond .eq 5, 3) := by decide +kernel
theorem dX11_next_29 : decode cX11_next 29 = .ok (.iload_n 2, 1) := by decide +kernel
theorem dX11_next_30 : decode cX11_next 30 = .ok (.ireturn, 1) := by decide +kernel
theorem dX11_next_31 : decode cX11_next 31 = .ok (.iinc 2 1, 3) := by decide +kernel
theorem dX11_next_34 : decode cX11_next 34 = .ok (.goto (-21), 3) := by decide +kernel
theorem dX11_next_37 : decode cX11_next 37 = .ok (.iconst (-1), 1) := by decide +kernel
theorem dX11_next_38 : decode cX11_next 38 = .ok (.ireturn, 1) := by decide +kernel
def Mo_next_L13_b (fl : Nat) (S : gm_M) (rec : Int32 → Option Int32) (y3 : Int32) : Option Int32 :=
  if S.1 0 1 < y3 then (
    some ((-1))
  ) else (
    gm_bp1 (Mo_isLucky fl y3 S) fun v5 =>
    if v5 = 0 then (
      gm_lt (α := Int32) (y3 + 1) fun x7 =>
      rec x7
    ) else (
      some (y3)
    )
  )
def Mo_next_L13 (fl : Nat) (S : gm_M) : Nat → Int32 → Option Int32
  | 0 => fun _ => none
  | n + 1 => Mo_next_L13_b fl S (Mo_next_L13 fl S n)
def Mo_next (fl : Nat) (a0 : Int32) (S : gm_M) : Option Int32 :=
  gm_bp1 (Mo_isNumber a0 S) fun v1 =>
  if v1 = 0 then (
    some ((-1000000002))
  ) else (
    Mo_next_L13 fl S fl a0
  )
set_option maxHeartbeats 4000000 in
set_option maxRecDepth 100000 in
theorem Mo_next_c (l : Launch) (cf : gm_C) (ad : Nat → Nat) {fl : Nat}   {a0 : Int32} {S : gm_M} {r : Int32}  (hf : Mo_next fl a0 S = some r) : gm_Met l yX11_next cX11_next 3 (some .int) 6 141 cf ad gm_sM 17 [.ref (ad 0), .int a0] S (some (.int r)) S := by
  refine gm_met (by decide +kernel) (Nat.le_of_ble_eq_true rfl) ?_
  intro p e s m args below meth c C hr
  have C : gm_F p s m args meth c cf ad 17 cX11_next 3 RX11 := C
  refine gm_lve (lv' := [(0, .ref (ad 0)), (1, .int a0)]) rfl ?_
  unfold Mo_next at hf
  refine gm_aload_n C dX11_next_0 rfl 0 rfl ?_
  refine gm_iload_n C dX11_next_1 rfl 1 rfl ?_
  obtain ⟨v1, ev1, hf⟩ := gm_bp1_s hf
  refine gm_callVi (As := [.int a0]) C (Mo_isNumber_c l cf ad ev1) (Nat.le_of_ble_eq_true rfl) rfl kc_11 wy_Mo_isNumber rfl wl_1167 rfl ⟨(Nat.le_of_ble_eq_true rfl), (Nat.le_of_ble_eq_true rfl)⟩ rfl (Nat.le_of_ble_eq_true rfl) dX11_next_2 ?_
  refine gm_if_ne C 11 dX11_next_5 (by decide) (fun c2 => ?_) (fun c2 => ?_)
  · have hf := gm_if _ c2 hf
    refine gm_iload_n C dX11_next_11 rfl 1 rfl ?_
    refine gm_istore_n (lv' := [(2, .int a0), (0, .ref (ad 0)), (1, .int a0)]) C dX11_next_12 rfl (by decide) rfl ?_
    have L13 : ∀ (n : Nat) (y3 : Int32), Mo_next_L13 fl S n y3 = some r → gm_G p l e { frames := 6, cells := 0, slots := 0, locals := 141 } s m args below meth c (MQ below (gm_Q cf ad gm_sM 17 (some (.int r)) S) args s 0 0 (gm_A ad 17)) cf ad gm_sM 17 3 S 13 [(0, .ref (ad 0)), (2, .int y3)] [] := by
      intro n
      induction n with
      | zero => intro y3 hf; cases (show (none : Option _) = some _ from hf)
      | succ n ih =>
        intro y3 hf
        have hf : Mo_next_L13_b fl S (Mo_next_L13 fl S n) y3 = some r := hf
        unfold Mo_next_L13_b at hf
        refine gm_iload_n C dX11_next_13 rfl 1 rfl ?_
        refine gm_aload_n C dX11_next_14 rfl 0 rfl ?_
        refine gm_geti C (Nat.le_of_ble_eq_true rfl) rfl kc_11 (k := 1) rfl (by decide) rfl wl_841 dX11_next_15 ?_
        refine gm_icmp_gt C 37 dX11_next_18 (by decide) (fun c4 => ?_) (fun c4 => ?_)
        · have hf := gm_it _ c4 hf
          refine gm_iconst (v := (-1)) C dX11_next_37 (by decide) ?_
          exact gm_iretK C hr rfl dX11_next_38 hf
        · have hf := gm_if _ c4 hf
          refine gm_aload_n C dX11_next_21 rfl 0 rfl ?_
          refine gm_iload_n C dX11_next_22 rfl 1 rfl ?_
          obtain ⟨v5, ev5, hf⟩ := gm_bp1_s hf
          refine gm_callVi (As := [.int y3]) C (Mo_isLucky_c l cf ad ev5) (Nat.le_of_ble_eq_true rfl) rfl kc_11 wy_Mo_isLucky rfl wl_1086 rfl ⟨(Nat.le_of_ble_eq_true rfl), (Nat.le_of_ble_eq_true rfl)⟩ rfl (Nat.le_of_ble_eq_true rfl) dX11_next_23 ?_
          refine gm_if_eq C 31 dX11_next_26 (by decide) (fun c6 => ?_) (fun c6 => ?_)
          · have hf := gm_it _ c6 hf
            obtain ⟨x7, ex7, hf⟩ := gm_lt_s hf
            refine gm_iinc (v := x7) (lv' := [(2, .int x7), (0, .ref (ad 0))]) (j := 1) C dX11_next_31 rfl (by rw [ex7]; rfl) (by decide) rfl ?_
            refine gm_goto C 13 dX11_next_34 (by decide) ?_
            exact gm_lvp [1, 0] rfl (ih _ hf)
          · have hf := gm_if _ c6 hf
            refine gm_iload_n C dX11_next_29 rfl 1 rfl ?_
            exact gm_iretK C hr rfl dX11_next_30 hf
    exact gm_lvp [1, 0] rfl (L13 fl _ hf)
  · have hf := gm_it _ c2 hf
    refine gm_ldc (v := (-1000000002)) C wl_960 dX11_next_8 ?_
    exact gm_iretK C hr rfl dX11_next_10 hf
theorem dX11_upTo_0 : decode cX11_upTo 0 = .ok (.aload_n 0, 1) := by decide +kernel
theorem dX11_upTo_1 : decode cX11_upTo 1 = .ok (.iload_n 1, 1) := by decide +kernel
theorem dX11_upTo_2 : decode cX11_upTo 2 = .ok (.invokevirtual 265, 3) := by decide +kernel
theorem dX11_upTo_5 : decode cX11_upTo 5 = .ok (.ifCond .eq 21, 3) := by decide +kernel
theorem dX11_upTo_8 : decode cX11_upTo 8 = .ok (.aload_n 0, 1) := by decide +kernel
theorem dX11_upTo_9 : decode cX11_upTo 9 = .ok (.iload_n 2, 1) := by decide +kernel
theorem dX11_upTo_10 : decode cX11_upTo 10 = .ok (.invokevirtual 265, 3) := by decide +kernel
theorem dX11_upTo_13 : decode cX11_upTo 13 = .ok (.ifCond .eq 13, 3) := by decide +kernel
theorem dX11_upTo_16 : decode cX11_upTo 16 = .ok (.aload_n 0, 1) := by decide +kernel
theorem dX11_upTo_17 : decode cX11_upTo 17 = .ok (.iconst (-1), 1) := by decide +kernel
theorem dX11_upTo_18 : decode cX11_upTo 18 = .ok (.iload_n 1, 1) := by decide +kernel
theorem dX11_upTo_19 : decode cX11_upTo 19 = .ok (.iload_n 2, 1) := by decide +kernel
theorem dX11_upTo_20 : decode cX11_upTo 20 = .ok (.invokevirtual 220, 3) := by decide +kernel
theorem dX11_upTo_23 : decode cX11_upTo 23 = .ok (.goto 5, 3) := by decide +kernel
theorem dX11_upTo_26 : decode cX11_upTo 26 = .ok (.ldc 96, 2) := by decide +kernel
theorem dX11_upTo_28 : decode cX11_upTo 28 = .ok (.ireturn, 1) := by decide +kernel
def Mo_upTo (fl : Nat) (a0 : Int32) (a1 : Int32) (S : gm_M) : Option Int32 :=
  gm_bp1 (Mo_isNumber a0 S) fun v1 =>
  if v1 = 0 then (
    some ((-1000000002))
  ) else (
    gm_bp1 (Mo_isNumber a1 S) fun v3 =>
    if v3 = 0 then (
      some ((-1000000002))
    ) else (
      gm_bp1 (Mo_manyBut fl (-1) a0 a1 S) fun v5 =>
      some (v5)
    )
  )
set_option maxHeartbeats 4000000 in
set_option maxRecDepth 100000 in
theorem Mo_upTo_c (l : Launch) (cf : gm_C) (ad : Nat → Nat) {fl : Nat}   {a0 : Int32} {a1 : Int32} {S : gm_M} {r : Int32}  (hf : Mo_upTo fl a0 a1 S = some r) : gm_Met l yX11_upTo cX11_upTo 3 (some .int) 6 145 cf ad gm_sM 17 [.ref (ad 0), .int a0, .int a1] S (some (.int r)) S := by
  refine gm_met (by decide +kernel) (Nat.le_of_ble_eq_true rfl) ?_
  intro p e s m args below meth c C hr
  have C : gm_F p s m args meth c cf ad 17 cX11_upTo 3 RX11 := C
  refine gm_lve (lv' := [(0, .ref (ad 0)), (1, .int a0), (2, .int a1)]) rfl ?_
  unfold Mo_upTo at hf
  refine gm_aload_n C dX11_upTo_0 rfl 0 rfl ?_
  refine gm_iload_n C dX11_upTo_1 rfl 1 rfl ?_
  obtain ⟨v1, ev1, hf⟩ := gm_bp1_s hf
  refine gm_callVi (As := [.int a0]) C (Mo_isNumber_c l cf ad ev1) (Nat.le_of_ble_eq_true rfl) rfl kc_11 wy_Mo_isNumber rfl wl_1167 rfl ⟨(Nat.le_of_ble_eq_true rfl), (Nat.le_of_ble_eq_true rfl)⟩ rfl (Nat.le_of_ble_eq_true rfl) dX11_upTo_2 ?_
  refine gm_if_eq C 26 dX11_upTo_5 (by decide) (fun c2 => ?_) (fun c2 => ?_)
  · have hf := gm_it _ c2 hf
    refine gm_ldc (v := (-1000000002)) C wl_960 dX11_upTo_26 ?_
    exact gm_iretK C hr rfl dX11_upTo_28 hf
  · have hf := gm_if _ c2 hf
    refine gm_aload_n C dX11_upTo_8 rfl 0 rfl ?_
    refine gm_iload_n C dX11_upTo_9 rfl 2 rfl ?_
    obtain ⟨v3, ev3, hf⟩ := gm_bp1_s hf
    refine gm_callVi (As := [.int a1]) C (Mo_isNumber_c l cf ad ev3) (Nat.le_of_ble_eq_true rfl) rfl kc_11 wy_Mo_isNumber rfl wl_1167 rfl ⟨(Nat.le_of_ble_eq_true rfl), (Nat.le_of_ble_eq_true rfl)⟩ rfl (Nat.le_of_ble_eq_true rfl) dX11_upTo_10 ?_
    refine gm_if_eq C 26 dX11_upTo_13 (by decide) (fun c4 => ?_) (fun c4 => ?_)
    · have hf := gm_it _ c4 hf
      refine gm_ldc (v := (-1000000002)) C wl_960 dX11_upTo_26 ?_
      exact gm_iretK C hr rfl dX11_upTo_28 hf
    · have hf := gm_if _ c4 hf
      refine gm_aload_n C dX11_upTo_16 rfl 0 rfl ?_
      refine gm_iconst (v := (-1)) C dX11_upTo_17 (by decide) ?_
      refine gm_iload_n C dX11_upTo_18 rfl 1 rfl ?_
      refine gm_iload_n C dX11_upTo_19 rfl 2 rfl ?_
      obtain ⟨v5, ev5, hf⟩ := gm_bp1_s hf
      refine gm_callVi (As := [.int (-1), .int a0, .int a1]) C (Mo_manyBut_c l cf ad ev5) (Nat.le_of_ble_eq_true rfl) rfl kc_11 wy_Mo_manyBut rfl wl_1042 rfl ⟨(Nat.le_of_ble_eq_true rfl), (Nat.le_of_ble_eq_true rfl)⟩ rfl (Nat.le_of_ble_eq_true rfl) dX11_upTo_20 ?_
      refine gm_goto C 28 dX11_upTo_23 (by decide) ?_
      exact gm_iretK C hr rfl dX11_upTo_28 hf
theorem dX11_kth_0 : decode cX11_kth 0 = .ok (.iload_n 1, 1) := by decide +kernel
theorem dX11_kth_1 : decode cX11_kth 1 = .ok (.ifCond .ge 6, 3) := by decide +kernel
theorem dX11_kth_4 : decode cX11_kth 4 = .ok (.ldc 96, 2) := by decide +kernel
theorem dX11_kth_6 : decode cX11_kth 6 = .ok (.ireturn, 1) := by decide +kernel
theorem dX11_kth_7 : decode cX11_kth 7 = .ok (.iload_n 1, 1) := by decide +kernel
theorem dX11_kth_8 : decode cX11_kth 8 = .ok (.istore_n 2, 1) := by decide +kernel
theorem dX11_kth_9 : decode cX11_kth 9 = .ok (.iconst 0, 1) := by decide +kernel
theorem dX11_kth_10 : decode cX11_kth 10 = .ok (.istore_n 3, 1) := by decide +kernel
theorem dX11_kth_11 : decode cX11_kth 11 = .ok (.iload_n 3, 1) := by decide +kernel
theorem dX11_kth_12 : decode cX11_kth 12 = .ok (.aload_n 0, 1) := by decide +kernel
theorem dX11_kth_13 : decode cX11_kth 13 = .ok (.getfield 79, 3) := by decide +kernel
theorem dX11_kth_16 : decode cX11_kth 16 = .ok (.if_icmp .gt 47, 3) := by decide +kernel
theorem dX11_kth_19 : decode cX11_kth 19 = .ok (.aload_n 0, 1) := by decide +kernel
theorem dX11_kth_20 : decode cX11_kth 20 = .ok (.getfield 63, 3) := by decide +kernel
theorem dX11_kth_23 : decode cX11_kth 23 = .ok (.ifCond .le 40, 3) := by decide +kernel
theorem dX11_kth_26 : decode cX11_kth 26 = .ok (.aload_n 0, 1) := by decide +kernel
theorem dX11_kth_27 : decode cX11_kth 27 = .ok (.iload_n 3, 1) := by decide +kernel
theorem dX11_kth_28 : decode cX11_kth 28 = .ok (.invokevirtual 224, 3) := by decide +kernel
theorem dX11_kth_31 : decode cX11_kth 31 = .ok (.istore 4, 2) := by decide +kernel
theorem dX11_kth_33 : decode cX11_kth 33 = .ok (.iload 4, 2) := by decide +kernel
theorem dX11_kth_35 : decode cX11_kth 35 = .ok (.ifCond .eq 9, 3) := by decide +kernel
theorem dX11_kth_38 : decode cX11_kth 38 = .ok (.iload_n 2, 1) := by decide +kernel
theorem dX11_kth_39 : decode cX11_kth 39 = .ok (.ifCond .ne 5, 3) := by decide +kernel
theorem dX11_kth_42 : decode cX11_kth 42 = .ok (.iload_n 3, 1) := by decide +kernel
theorem dX11_kth_43 : decode cX11_kth 43 = .ok (.ireturn, 1) := by decide +kernel
theorem dX11_kth_44 : decode cX11_kth 44 = .ok (.iload_n 2, 1) := by decide +kernel
theorem dX11_kth_45 : decode cX11_kth 45 = .ok (.iload 4, 2) := by decide +kernel
theorem dX11_kth_47 : decode cX11_kth 47 = .ok (.ifCond .eq 7, 3) := by decide +kernel
theorem dX11_kth_50 : decode cX11_kth 50 = .ok (.iconst 1, 1) := by decide +kernel
theorem dX11_kth_51 : decode cX11_kth 51 = .ok (.goto 4, 3) := by decide +kernel
theorem dX11_kth_54 : decode cX11_kth 54 = .ok (.iconst 0, 1) := by decide +kernel
theorem dX11_kth_55 : decode cX11_kth 55 = .ok (.isub, 1) := by decide +kernel
theorem dX11_kth_56 : decode cX11_kth 56 = .ok (.istore_n 2, 1) := by decide +kernel
theorem dX11_kth_57 : decode cX11_kth 57 = .ok (.iinc 3 1, 3) := by decide +kernel
theorem dX11_kth_60 : decode cX11_kth 60 = .ok (.goto (-49), 3) := by decide +kernel
theorem dX11_kth_63 : decode cX11_kth 63 = .ok (.iconst (-1), 1) := by decide +kernel
theorem dX11_kth_64 : decode cX11_kth 64 = .ok (.ireturn, 1) := by decide +kernel
def Mo_kth_L11_b (fl : Nat) (S : gm_M) (rec : Int32 → Int32 → Option Int32) (y2 : Int32) (y3 : Int32) : Option Int32 :=
  if S.1 0 1 < y3 then (
    some ((-1))
  ) else (
    if S.1 0 0 ≤ 0 then (
      some ((-1))
    ) else (
      gm_bp1 (Mo_isLucky fl y3 S) fun v6 =>
      if v6 = 0 then (
        gm_bp1 (show Option (Int32) from
          if v6 = 0 then (
            some (0)
          ) else (
            some (1)
          )
        ) fun x8 =>
        gm_lt (α := Int32) (y2 - x8) fun x9 =>
        gm_lt (α := Int32) (y3 + 1) fun x10 =>
        rec x9 x10
      ) else (
        if y2 = 0 then (
          some (y3)
        ) else (
          gm_bp1 (show Option (Int32) from
            if v6 = 0 then (
              some (0)
            ) else (
              some (1)
            )
          ) fun x13 =>
          gm_lt (α := Int32) (y2 - x13) fun x14 =>
          gm_lt (α := Int32) (y3 + 1) fun x15 =>
          rec x14 x15
        )
      )
    )
  )
def Mo_kth_L11 (fl : Nat) (S : gm_M) : Nat → Int32 → Int32 → Option Int32
  | 0 => fun _ _ => none
  | n + 1 => Mo_kth_L11_b fl S (Mo_kth_L11 fl S n)
def Mo_kth (fl : Nat) (a0 : Int32) (S : gm_M) : Option Int32 :=
  if (0 : Int32) ≤ a0 then (
    Mo_kth_L11 fl S fl a0 0
  ) else (
    some ((-1000000002))
  )
set_option maxHeartbeats 4000000 in
set_option maxRecDepth 100000 in
theorem Mo_kth_c (l : Launch) (cf : gm_C) (ad : Nat → Nat) {fl : Nat}   {a0 : Int32} {S : gm_M} {r : Int32}  (hf : Mo_kth fl a0 S = some r) : gm_Met l yX11_kth cX11_kth 5 (some .int) 6 141 cf ad gm_sM 17 [.ref (ad 0), .int a0] S (some (.int r)) S := by
  refine gm_met (by decide +kernel) (Nat.le_of_ble_eq_true rfl) ?_
  intro p e s m args below meth c C hr
  have C : gm_F p s m args meth c cf ad 17 cX11_kth 5 RX11 := C
  refine gm_lve (lv' := [(0, .ref (ad 0)), (1, .int a0)]) rfl ?_
  unfold Mo_kth at hf
  refine gm_iload_n C dX11_kth_0 rfl 1 rfl ?_
  refine gm_if_ge C 7 dX11_kth_1 (by decide) (fun c1 => ?_) (fun c1 => ?_)
  · have hf := gm_it _ c1 hf
    refine gm_iload_n C dX11_kth_7 rfl 1 rfl ?_
    refine gm_istore_n (lv' := [(2, .int a0), (0, .ref (ad 0)), (1, .int a0)]) C dX11_kth_8 rfl (by decide) rfl ?_
    refine gm_iconst (v := 0) C dX11_kth_9 (by decide) ?_
    refine gm_istore_n (lv' := [(3, .int 0), (2, .int a0), (0, .ref (ad 0)), (1, .int a0)]) C dX11_kth_10 rfl (by decide) rfl ?_
    have L11 : ∀ (n : Nat) (y2 : Int32) (y3 : Int32), Mo_kth_L11 fl S n y2 y3 = some r → gm_G p l e { frames := 6, cells := 0, slots := 0, locals := 141 } s m args below meth c (MQ below (gm_Q cf ad gm_sM 17 (some (.int r)) S) args s 0 0 (gm_A ad 17)) cf ad gm_sM 17 5 S 11 [(0, .ref (ad 0)), (2, .int y2), (3, .int y3)] [] := by
      intro n
      induction n with
      | zero => intro y2 y3 hf; cases (show (none : Option _) = some _ from hf)
      | succ n ih =>
        intro y2 y3 hf
        have hf : Mo_kth_L11_b fl S (Mo_kth_L11 fl S n) y2 y3 = some r := hf
        unfold Mo_kth_L11_b at hf
        refine gm_iload_n C dX11_kth_11 rfl 2 rfl ?_
        refine gm_aload_n C dX11_kth_12 rfl 0 rfl ?_
        refine gm_geti C (Nat.le_of_ble_eq_true rfl) rfl kc_11 (k := 1) rfl (by decide) rfl wl_841 dX11_kth_13 ?_
        refine gm_icmp_gt C 63 dX11_kth_16 (by decide) (fun c4 => ?_) (fun c4 => ?_)
        · have hf := gm_it _ c4 hf
          refine gm_iconst (v := (-1)) C dX11_kth_63 (by decide) ?_
          exact gm_iretK C hr rfl dX11_kth_64 hf
        · have hf := gm_if _ c4 hf
          refine gm_aload_n C dX11_kth_19 rfl 0 rfl ?_
          refine gm_geti C (Nat.le_of_ble_eq_true rfl) rfl kc_11 (k := 0) rfl (by decide) rfl wl_840 dX11_kth_20 ?_
          refine gm_if_le C 63 dX11_kth_23 (by decide) (fun c5 => ?_) (fun c5 => ?_)
          · have hf := gm_it _ c5 hf
            refine gm_iconst (v := (-1)) C dX11_kth_63 (by decide) ?_
            exact gm_iretK C hr rfl dX11_kth_64 hf
          · have hf := gm_if _ c5 hf
            refine gm_aload_n C dX11_kth_26 rfl 0 rfl ?_
            refine gm_iload_n C dX11_kth_27 rfl 2 rfl ?_
            obtain ⟨v6, ev6, hf⟩ := gm_bp1_s hf
            refine gm_callVi (As := [.int y3]) C (Mo_isLucky_c l cf ad ev6) (Nat.le_of_ble_eq_true rfl) rfl kc_11 wy_Mo_isLucky rfl wl_1086 rfl ⟨(Nat.le_of_ble_eq_true rfl), (Nat.le_of_ble_eq_true rfl)⟩ rfl (Nat.le_of_ble_eq_true rfl) dX11_kth_28 ?_
            refine gm_istore (lv' := [(4, .int v6), (0, .ref (ad 0)), (2, .int y2), (3, .int y3)]) C dX11_kth_31 (by decide) rfl ?_
            refine gm_iload C dX11_kth_33 0 rfl ?_
            refine gm_if_eq C 44 dX11_kth_35 (by decide) (fun c7 => ?_) (fun c7 => ?_)
            · have hf := gm_it _ c7 hf
              refine gm_iload_n C dX11_kth_44 rfl 2 rfl ?_
              refine gm_iload C dX11_kth_45 0 rfl ?_
              obtain ⟨x8, hx, hf⟩ := gm_bp1_s hf
              have key : gm_G p l e { frames := 6, cells := 0, slots := 0, locals := 141 } s m args below meth c (MQ below (gm_Q cf ad gm_sM 17 (some (.int r)) S) args s 0 0 (gm_A ad 17)) cf ad gm_sM 17 5 S 55 [(0, .ref (ad 0)), (3, .int y3)] [.int x8, .int y2] := by
                refine gm_isub C dX11_kth_55 ?_
                obtain ⟨x9, ex9, hf⟩ := gm_lt_s hf
                refine gm_topi ex9 ?_
                refine gm_istore_n (lv' := [(2, .int x9), (0, .ref (ad 0)), (3, .int y3)]) C dX11_kth_56 rfl (by decide) rfl ?_
                obtain ⟨x10, ex10, hf⟩ := gm_lt_s hf
                refine gm_iinc (v := x10) (lv' := [(3, .int x10), (2, .int x9), (0, .ref (ad 0))]) (j := 2) C dX11_kth_57 rfl (by rw [ex10]; rfl) (by decide) rfl ?_
                refine gm_goto C 11 dX11_kth_60 (by decide) ?_
                exact gm_lvp [2, 1, 0] rfl (ih _ _ hf)
              have hf := hx
              refine gm_if_eq C 54 dX11_kth_47 (by decide) (fun c11 => ?_) (fun c11 => ?_)
              · have hf := gm_it _ c11 hf
                refine gm_iconst (v := 0) C dX11_kth_54 (by decide) ?_
                cases hf
                exact gm_lvp [1, 3] rfl key
              · have hf := gm_if _ c11 hf
                refine gm_iconst (v := 1) C dX11_kth_50 (by decide) ?_
                refine gm_goto C 55 dX11_kth_51 (by decide) ?_
                cases hf
                exact gm_lvp [1, 3] rfl key
            · have hf := gm_if _ c7 hf
              refine gm_iload_n C dX11_kth_38 rfl 2 rfl ?_
              refine gm_if_ne C 44 dX11_kth_39 (by decide) (fun c12 => ?_) (fun c12 => ?_)
              · have hf := gm_if _ c12 hf
                refine gm_iload_n C dX11_kth_44 rfl 2 rfl ?_
                refine gm_iload C dX11_kth_45 0 rfl ?_
                obtain ⟨x13, hx, hf⟩ := gm_bp1_s hf
                have key : gm_G p l e { frames := 6, cells := 0, slots := 0, locals := 141 } s m args below meth c (MQ below (gm_Q cf ad gm_sM 17 (some (.int r)) S) args s 0 0 (gm_A ad 17)) cf ad gm_sM 17 5 S 55 [(0, .ref (ad 0)), (3, .int y3)] [.int x13, .int y2] := by
                  refine gm_isub C dX11_kth_55 ?_
                  obtain ⟨x14, ex14, hf⟩ := gm_lt_s hf
                  refine gm_topi ex14 ?_
                  refine gm_istore_n (lv' := [(2, .int x14), (0, .ref (ad 0)), (3, .int y3)]) C dX11_kth_56 rfl (by decide) rfl ?_
                  obtain ⟨x15, ex15, hf⟩ := gm_lt_s hf
                  refine gm_iinc (v := x15) (lv' := [(3, .int x15), (2, .int x14), (0, .ref (ad 0))]) (j := 2) C dX11_kth_57 rfl (by rw [ex15]; rfl) (by decide) rfl ?_
                  refine gm_goto C 11 dX11_kth_60 (by decide) ?_
                  exact gm_lvp [2, 1, 0] rfl (ih _ _ hf)
                have hf := hx
                refine gm_if_eq C 54 dX11_kth_47 (by decide) (fun c16 => ?_) (fun c16 => ?_)
                · have hf := gm_it _ c16 hf
                  refine gm_iconst (v := 0) C dX11_kth_54 (by decide) ?_
                  cases hf
                  exact gm_lvp [1, 3] rfl key
                · have hf := gm_if _ c16 hf
                  refine gm_iconst (v := 1) C dX11_kth_50 (by decide) ?_
                  refine gm_goto C 55 dX11_kth_51 (by decide) ?_
                  cases hf
                  exact gm_lvp [1, 3] rfl key
              · have hf := gm_it _ c12 hf
                refine gm_iload_n C dX11_kth_42 rfl 3 rfl ?_
                exact gm_iretK C hr rfl dX11_kth_43 hf
    exact gm_lvp [2, 1, 0] rfl (L11 fl _ _ hf)
  · have hf := gm_if _ c1 hf
    refine gm_ldc (v := (-1000000002)) C wl_960 dX11_kth_4 ?_
    exact gm_iretK C hr rfl dX11_kth_6 hf
theorem dX11_waits_0 : decode cX11_waits 0 = .ok (.iload_n 1, 1) := by decide +kernel
theorem dX11_waits_1 : decode cX11_waits 1 = .ok (.i2l, 1) := by decide +kernel
theorem dX11_waits_2 : decode cX11_waits 2 = .ok (.lconst 0, 1) := by decide +kernel
theorem dX11_waits_3 : decode cX11_waits 3 = .ok (.lconst 1, 1) := by decide +kernel
theorem dX11_waits_4 : decode cX11_waits 4 = .ok (.invokestatic 69, 3) := by decide +kernel
theorem dX11_waits_7 : decode cX11_waits 7 = .ok (.ifCond .ne 6, 3) := by decide +kernel
theorem dX11_waits_10 : decode cX11_waits 10 = .ok (.ldc 96, 2) := by decide +kernel
theorem dX11_waits_12 : decode cX11_waits 12 = .ok (.ireturn, 1) := by decide +kernel
theorem dX11_waits_13 : decode cX11_waits 13 = .ok (.iconst (-1), 1) := by decide +kernel
theorem dX11_waits_14 : decode cX11_waits 14 = .ok (.istore_n 2, 1) := by decide +kernel
theorem dX11_waits_15 : decode cX11_waits 15 = .ok (.iconst (-1), 1) := by decide +kernel
theorem dX11_waits_16 : decode cX11_waits 16 = .ok (.istore_n 3, 1) := by decide +kernel
theorem dX11_waits_17 : decode cX11_waits 17 = .ok (.iconst (-1), 1) := by decide +kernel
theorem dX11_waits_18 : decode cX11_waits 18 = .ok (.istore 4, 2) := by decide +kernel
theorem dX11_waits_20 : decode cX11_waits 20 = .ok (.iconst 0, 1) := by decide +kernel
theorem dX11_waits_21 : decode cX11_waits 21 = .ok (.istore 5, 2) := by decide +kernel
theorem dX11_waits_23 : decode cX11_waits 23 = .ok (.iload 5, 2) := by decide +kernel
theorem dX11_waits_25 : decode cX11_waits 25 = .ok (.aload_n 0, 1) := by decide +kernel
theorem dX11_waits_26 : decode cX11_waits 26 = .ok (.getfield 79, 3) := by decide +kernel
theorem dX11_waits_29 : decode cX11_waits 29 = .ok (.if_icmp .gt 77, 3) := by decide +kernel
theorem dX11_waits_32 : decode cX11_waits 32 = .ok (.aload_n 0, 1) := by decide +kernel
theorem dX11_waits_33 : decode cX11_waits 33 = .ok (.getfield 63, 3) := by decide +kernel
theorem dX11_waits_36 : decode cX11_waits 36 = .ok (.ifCond .le 70, 3) := by decide +kernel
theorem dX11_waits_39 : decode cX11_waits 39 = .ok (.aload_n 0, 1) := by decide +kernel
theorem dX11_waits_40 : decode cX11_waits 40 = .ok (.iload 5, 2) := by decide +kernel
theorem dX11_waits_42 : decode cX11_waits 42 = .ok (.invokevirtual 224, 3) := by decide +kernel
theorem dX11_waits_45 : decode cX11_waits 45 = .ok (.ifCond .eq 55, 3) := by decide +kernel
theorem dX11_waits_48 : decode cX11_waits 48 = .ok (.iload 4, 2) := by decide +kernel
theorem dX11_waits_50 : decode cX11_waits 50 = .ok (.ifCond .lt 16, 3) := by decide +kernel
theorem dX11_waits_53 : decode cX11_waits 53 = .ok (.iload 5, 2) := by decide +kernel
theorem dX11_waits_55 : decode cX11_waits 55 = .ok (.iload 4, 2) := by decide +kernel
theorem dX11_waits_57 : decode cX11_waits 57 = .ok (.isub, 1) := by decide +kernel
theorem dX11_waits_58 : decode cX11_waits 58 = .ok (.iload_n 2, 1) := by decide +kernel
theorem dX11_waits_59 : decode cX11_waits 59 = .ok (.if_icmp .le 7, 3) := by decide +kernel
theorem dX11_waits_62 : decode cX11_waits 62 = .ok (.iconst 1, 1) := by decide +kernel
theorem dX11_waits_63 : decode cX11_waits 63 = .ok (.goto 4, 3) := by decide +kernel
theorem dX11_waits_66 : decode cX11_waits 66 = .ok (.iconst 0, 1) := by decide +kernel
theorem dX11_waits_67 : decode cX11_waits 67 = .ok (.istore 6, 2) := by decide +kernel
theorem dX11_waits_69 : decode cX11_waits 69 = .ok (.iload 6, 2) := by decide +kernel
theorem dX11_waits_71 : decode cX11_waits 71 = .ok (.ifCond .eq 8, 3) := by decide +kernel
theorem dX11_waits_74 : decode cX11_waits 74 = .ok (.iload 4, 2) := by decide +kernel
theorem dX11_waits_76 : decode cX11_waits 76 = .ok (.goto 4, 3) := by decide +kernel
theorem dX11_waits_79 : decode cX11_waits 79 = .ok (.iload_n 3, 1) := by decide +kernel
theorem dX11_waits_80 : decode cX11_waits 80 = .ok (.istore_n 3, 1) := by decide +kernel
theorem dX11_waits_81 : decode cX11_waits 81 = .ok (.iload 6, 2) := by decide +kernel
theorem dX11_waits_83 : decode cX11_waits 83 = .ok (.ifCond .eq 11, 3) := by decide +kernel
theorem dX11_waits_86 : decode cX11_waits 86 = .ok (.iload 5, 2) := by decide +kernel
theorem dX11_waits_88 : decode cX11_waits 88 = .ok (.iload 4, 2) := by decide +kernel
theorem dX11_waits_90 : decode cX11_waits 90 = .ok (.isub, 1) := by decide +kernel
theorem dX11_waits_91 : decode cX11_waits 91 = .ok (.goto 4, 3) := by decide +kernel
theorem dX11_waits_94 : decode cX11_waits 94 = .ok (.iload_n 2, 1) := by decide +kernel
theorem dX11_waits_95 : decode cX11_waits 95 = .ok (.istore_n 2, 1) := by decide +kernel
theorem dX11_waits_96 : decode cX11_waits 96 = .ok (.iload 5, 2) := by decide +kernel
theorem dX11_waits_98 : decode cX11_waits 98 = .ok (.istore 4, 2) := by decide +kernel
theorem dX11_waits_100 : decode cX11_waits 100 = .ok (.iinc 5 1, 3) := by decide +kernel
theorem dX11_waits_103 : decode cX11_waits 103 = .ok (.goto (-80), 3) := by decide +kernel
theorem dX11_waits_106 : decode cX11_waits 106 = .ok (.iload_n 1, 1) := by decide +kernel
theorem dX11_waits_107 : decode cX11_waits 107 = .ok (.ifCond .ne 7, 3) := by decide +kernel
theorem dX11_waits_110 : decode cX11_waits 110 = .ok (.iload_n 2, 1) := by decide +kernel
theorem dX11_waits_111 : decode cX11_waits 111 = .ok (.goto 4, 3) := by decide +kernel
theorem dX11_waits_114 : decode cX11_waits 114 = .ok (.iload_n 3, 1) := by decide +kernel
theorem dX11_waits_115 : decode cX11_waits 115 = .ok (.ireturn, 1) := by decide +kernel
def Mo_waits_L23_b (fl : Nat) (S : gm_M) (rec : Int32 → Int32 → Int32 → Int32 → Option (Int32 × Int32)) (y3 : Int32) (y4 : Int32) (y5 : Int32) (y6 : Int32) : Option (Int32 × Int32) :=
  if S.1 0 1 < y6 then (
    some (y3, y4)
  ) else (
    if S.1 0 0 ≤ 0 then (
      some (y3, y4)
    ) else (
      gm_bp1 (Mo_isLucky fl y6 S) fun v11 =>
      gm_bp3 (show Option (Int32 × Int32 × Int32) from
        if v11 = 0 then (
          some (y3, y4, y5)
        ) else (
          gm_bp1 (show Option (Int32) from
            if y5 < 0 then (
              some (0)
            ) else (
              if y6 - y5 ≤ y3 then (
                some (0)
              ) else (
                some (1)
              )
            )
          ) fun x17 =>
          gm_bp1 (show Option (Int32) from
            if x17 = 0 then (
              some (y4)
            ) else (
              some (y5)
            )
          ) fun x18 =>
          gm_bp1 (show Option (Int32) from
            if x17 = 0 then (
              some (y3)
            ) else (
              some (y6 - y5)
            )
          ) fun x19 =>
          some (x19, x18, y6)
        )
      ) fun x12 x13 x14 =>
      gm_lt (α := Int32) (y6 + 1) fun x15 =>
      rec x12 x13 x14 x15
    )
  )
def Mo_waits_L23 (fl : Nat) (S : gm_M) : Nat → Int32 → Int32 → Int32 → Int32 → Option (Int32 × Int32)
  | 0 => fun _ _ _ _ => none
  | n + 1 => Mo_waits_L23_b fl S (Mo_waits_L23 fl S n)
def Mo_waits (fl : Nat) (a0 : Int32) (S : gm_M) : Option Int32 :=
  gm_bp1 (Mo_in ((a0 : Int32).toInt64) 0 1) fun v1 =>
  if v1 = 0 then (
    some ((-1000000002))
  ) else (
    gm_bp2 (Mo_waits_L23 fl S fl (-1) (-1) (-1) 0) fun z7 z8 =>
    if a0 = 0 then (
      some (z7)
    ) else (
      some (z8)
    )
  )
set_option maxHeartbeats 4000000 in
set_option maxRecDepth 100000 in
theorem Mo_waits_c (l : Launch) (cf : gm_C) (ad : Nat → Nat) {fl : Nat}   {a0 : Int32} {S : gm_M} {r : Int32}  (hf : Mo_waits fl a0 S = some r) : gm_Met l yX11_waits cX11_waits 7 (some .int) 6 141 cf ad gm_sM 17 [.ref (ad 0), .int a0] S (some (.int r)) S := by
  refine gm_met (by decide +kernel) (Nat.le_of_ble_eq_true rfl) ?_
  intro p e s m args below meth c C hr
  have C : gm_F p s m args meth c cf ad 17 cX11_waits 7 RX11 := C
  refine gm_lve (lv' := [(0, .ref (ad 0)), (1, .int a0)]) rfl ?_
  unfold Mo_waits at hf
  refine gm_iload_n C dX11_waits_0 rfl 1 rfl ?_
  refine gm_i2l C dX11_waits_1 rfl ?_
  refine gm_lconst (v := 0) C dX11_waits_2 (by decide) ?_
  refine gm_lconst (v := 1) C dX11_waits_3 (by decide) ?_
  obtain ⟨v1, ev1, hf⟩ := gm_bp1_s hf
  refine gm_callSi (As := [.long ((a0 : Int32).toInt64), .long 0, .long 1]) C (Mo_in_c l cf ad ev1 (S := S)) wy_Mo_in wl_957 rfl ⟨(Nat.le_of_ble_eq_true rfl), (Nat.le_of_ble_eq_true rfl)⟩ rfl (Nat.le_of_ble_eq_true rfl) dX11_waits_4 ?_
  refine gm_if_ne C 13 dX11_waits_7 (by decide) (fun c2 => ?_) (fun c2 => ?_)
  · have hf := gm_if _ c2 hf
    refine gm_iconst (v := (-1)) C dX11_waits_13 (by decide) ?_
    refine gm_istore_n (lv' := [(2, .int (-1)), (0, .ref (ad 0)), (1, .int a0)]) C dX11_waits_14 rfl (by decide) rfl ?_
    refine gm_iconst (v := (-1)) C dX11_waits_15 (by decide) ?_
    refine gm_istore_n (lv' := [(3, .int (-1)), (2, .int (-1)), (0, .ref (ad 0)), (1, .int a0)]) C dX11_waits_16 rfl (by decide) rfl ?_
    refine gm_iconst (v := (-1)) C dX11_waits_17 (by decide) ?_
    refine gm_istore (lv' := [(4, .int (-1)), (3, .int (-1)), (2, .int (-1)), (0, .ref (ad 0)), (1, .int a0)]) C dX11_waits_18 (by decide) rfl ?_
    refine gm_iconst (v := 0) C dX11_waits_20 (by decide) ?_
    refine gm_istore (lv' := [(5, .int 0), (4, .int (-1)), (3, .int (-1)), (2, .int (-1)), (0, .ref (ad 0)), (1, .int a0)]) C dX11_waits_21 (by decide) rfl ?_
    have L23 : ∀ (n : Nat) (y3 : Int32) (y4 : Int32) (y5 : Int32) (y6 : Int32) (z7 : Int32) (z8 : Int32), Mo_waits_L23 fl S n y3 y4 y5 y6 = some (z7, z8) → gm_G p l e { frames := 6, cells := 0, slots := 0, locals := 141 } s m args below meth c (MQ below (gm_Q cf ad gm_sM 17 (some (.int r)) S) args s 0 0 (gm_A ad 17)) cf ad gm_sM 17 7 S 106 [(1, .int a0), (2, .int z7), (3, .int z8)] [] → gm_G p l e { frames := 6, cells := 0, slots := 0, locals := 141 } s m args below meth c (MQ below (gm_Q cf ad gm_sM 17 (some (.int r)) S) args s 0 0 (gm_A ad 17)) cf ad gm_sM 17 7 S 23 [(0, .ref (ad 0)), (1, .int a0), (2, .int y3), (3, .int y4), (4, .int y5), (5, .int y6)] [] := by
      intro n
      induction n with
      | zero => intro y3 y4 y5 y6 z7 z8 hf K; cases (show (none : Option _) = some _ from hf)
      | succ n ih =>
        intro y3 y4 y5 y6 z7 z8 hf K
        have hf : Mo_waits_L23_b fl S (Mo_waits_L23 fl S n) y3 y4 y5 y6 = some (z7, z8) := hf
        unfold Mo_waits_L23_b at hf
        refine gm_iload C dX11_waits_23 5 rfl ?_
        refine gm_aload_n C dX11_waits_25 rfl 0 rfl ?_
        refine gm_geti C (Nat.le_of_ble_eq_true rfl) rfl kc_11 (k := 1) rfl (by decide) rfl wl_841 dX11_waits_26 ?_
        refine gm_icmp_gt C 106 dX11_waits_29 (by decide) (fun c9 => ?_) (fun c9 => ?_)
        · have hf := gm_it _ c9 hf
          cases hf
          exact gm_lvp [1, 2, 3] rfl K
        · have hf := gm_if _ c9 hf
          refine gm_aload_n C dX11_waits_32 rfl 0 rfl ?_
          refine gm_geti C (Nat.le_of_ble_eq_true rfl) rfl kc_11 (k := 0) rfl (by decide) rfl wl_840 dX11_waits_33 ?_
          refine gm_if_le C 106 dX11_waits_36 (by decide) (fun c10 => ?_) (fun c10 => ?_)
          · have hf := gm_it _ c10 hf
            cases hf
            exact gm_lvp [1, 2, 3] rfl K
          · have hf := gm_if _ c10 hf
            refine gm_aload_n C dX11_waits_39 rfl 0 rfl ?_
            refine gm_iload C dX11_waits_40 5 rfl ?_
            obtain ⟨v11, ev11, hf⟩ := gm_bp1_s hf
            refine gm_callVi (As := [.int y6]) C (Mo_isLucky_c l cf ad ev11) (Nat.le_of_ble_eq_true rfl) rfl kc_11 wy_Mo_isLucky rfl wl_1086 rfl ⟨(Nat.le_of_ble_eq_true rfl), (Nat.le_of_ble_eq_true rfl)⟩ rfl (Nat.le_of_ble_eq_true rfl) dX11_waits_42 ?_
            obtain ⟨x12, x13, x14, hx, hf⟩ := gm_bp3_s hf
            have key : gm_G p l e { frames := 6, cells := 0, slots := 0, locals := 141 } s m args below meth c (MQ below (gm_Q cf ad gm_sM 17 (some (.int r)) S) args s 0 0 (gm_A ad 17)) cf ad gm_sM 17 7 S 100 [(0, .ref (ad 0)), (1, .int a0), (2, .int x12), (3, .int x13), (4, .int x14), (5, .int y6)] [] := by
              obtain ⟨x15, ex15, hf⟩ := gm_lt_s hf
              refine gm_iinc (v := x15) (lv' := [(5, .int x15), (0, .ref (ad 0)), (1, .int a0), (2, .int x12), (3, .int x13), (4, .int x14)]) (j := 5) C dX11_waits_100 rfl (by rw [ex15]; rfl) (by decide) rfl ?_
              refine gm_goto C 23 dX11_waits_103 (by decide) ?_
              exact gm_lvp [1, 2, 3, 4, 5, 0] rfl (ih _ _ _ _ _ _ hf K)
            have hf := hx
            refine gm_if_eq C 100 dX11_waits_45 (by decide) (fun c16 => ?_) (fun c16 => ?_)
            · have hf := gm_it _ c16 hf
              cases hf
              exact gm_lvp [0, 1, 2, 3, 4, 5] rfl key
            · have hf := gm_if _ c16 hf
              refine gm_iload C dX11_waits_48 4 rfl ?_
              obtain ⟨x17, hx, hf⟩ := gm_bp1_s hf
              have key : gm_G p l e { frames := 6, cells := 0, slots := 0, locals := 141 } s m args below meth c (MQ below (gm_Q cf ad gm_sM 17 (some (.int r)) S) args s 0 0 (gm_A ad 17)) cf ad gm_sM 17 7 S 67 [(0, .ref (ad 0)), (1, .int a0), (2, .int y3), (3, .int y4), (4, .int y5), (5, .int y6)] [.int x17] := by
                refine gm_istore (lv' := [(6, .int x17), (0, .ref (ad 0)), (1, .int a0), (2, .int y3), (3, .int y4), (4, .int y5), (5, .int y6)]) C dX11_waits_67 (by decide) rfl ?_
                refine gm_iload C dX11_waits_69 0 rfl ?_
                obtain ⟨x18, hx, hf⟩ := gm_bp1_s hf
                have key : gm_G p l e { frames := 6, cells := 0, slots := 0, locals := 141 } s m args below meth c (MQ below (gm_Q cf ad gm_sM 17 (some (.int r)) S) args s 0 0 (gm_A ad 17)) cf ad gm_sM 17 7 S 80 [(0, .ref (ad 0)), (1, .int a0), (2, .int y3), (4, .int y5), (5, .int y6), (6, .int x17)] [.int x18] := by
                  refine gm_istore_n (lv' := [(3, .int x18), (0, .ref (ad 0)), (1, .int a0), (2, .int y3), (4, .int y5), (5, .int y6), (6, .int x17)]) C dX11_waits_80 rfl (by decide) rfl ?_
                  refine gm_iload C dX11_waits_81 6 rfl ?_
                  obtain ⟨x19, hx, hf⟩ := gm_bp1_s hf
                  have key : gm_G p l e { frames := 6, cells := 0, slots := 0, locals := 141 } s m args below meth c (MQ below (gm_Q cf ad gm_sM 17 (some (.int r)) S) args s 0 0 (gm_A ad 17)) cf ad gm_sM 17 7 S 95 [(0, .ref (ad 0)), (1, .int a0), (3, .int x18), (5, .int y6)] [.int x19] := by
                    refine gm_istore_n (lv' := [(2, .int x19), (0, .ref (ad 0)), (1, .int a0), (3, .int x18), (5, .int y6)]) C dX11_waits_95 rfl (by decide) rfl ?_
                    refine gm_iload C dX11_waits_96 4 rfl ?_
                    refine gm_istore (lv' := [(4, .int y6), (2, .int x19), (0, .ref (ad 0)), (1, .int a0), (3, .int x18), (5, .int y6)]) C dX11_waits_98 (by decide) rfl ?_
                    cases hf
                    exact gm_lvp [2, 3, 1, 4, 0, 5] rfl key
                  have hf := hx
                  refine gm_if_eq C 94 dX11_waits_83 (by decide) (fun c20 => ?_) (fun c20 => ?_)
                  · have hf := gm_it _ c20 hf
                    refine gm_iload_n C dX11_waits_94 rfl 3 rfl ?_
                    cases hf
                    exact gm_lvp [1, 2, 0, 5] rfl key
                  · have hf := gm_if _ c20 hf
                    refine gm_iload C dX11_waits_86 5 rfl ?_
                    refine gm_iload C dX11_waits_88 4 rfl ?_
                    refine gm_isub C dX11_waits_90 ?_
                    refine gm_goto C 95 dX11_waits_91 (by decide) ?_
                    cases hf
                    exact gm_lvp [1, 2, 0, 5] rfl key
                have hf := hx
                refine gm_if_eq C 79 dX11_waits_71 (by decide) (fun c21 => ?_) (fun c21 => ?_)
                · have hf := gm_it _ c21 hf
                  refine gm_iload_n C dX11_waits_79 rfl 4 rfl ?_
                  cases hf
                  exact gm_lvp [1, 2, 3, 5, 6, 0] rfl key
                · have hf := gm_if _ c21 hf
                  refine gm_iload C dX11_waits_74 5 rfl ?_
                  refine gm_goto C 80 dX11_waits_76 (by decide) ?_
                  cases hf
                  exact gm_lvp [1, 2, 3, 5, 6, 0] rfl key
              have hf := hx
              refine gm_if_lt C 66 dX11_waits_50 (by decide) (fun c22 => ?_) (fun c22 => ?_)
              · have hf := gm_it _ c22 hf
                refine gm_iconst (v := 0) C dX11_waits_66 (by decide) ?_
                cases hf
                exact gm_lvp [0, 1, 2, 3, 4, 5] rfl key
              · have hf := gm_if _ c22 hf
                refine gm_iload C dX11_waits_53 5 rfl ?_
                refine gm_iload C dX11_waits_55 4 rfl ?_
                refine gm_isub C dX11_waits_57 ?_
                refine gm_iload_n C dX11_waits_58 rfl 2 rfl ?_
                refine gm_icmp_le C 66 dX11_waits_59 (by decide) (fun c23 => ?_) (fun c23 => ?_)
                · have hf := gm_it _ c23 hf
                  refine gm_iconst (v := 0) C dX11_waits_66 (by decide) ?_
                  cases hf
                  exact gm_lvp [0, 1, 2, 3, 4, 5] rfl key
                · have hf := gm_if _ c23 hf
                  refine gm_iconst (v := 1) C dX11_waits_62 (by decide) ?_
                  refine gm_goto C 67 dX11_waits_63 (by decide) ?_
                  cases hf
                  exact gm_lvp [0, 1, 2, 3, 4, 5] rfl key
    obtain ⟨z7, z8, hx, hf⟩ := gm_bp2_s hf
    refine gm_lvp [4, 5, 3, 2, 1, 0] rfl (L23 fl _ _ _ _ _ _ hx ?_)
    refine gm_iload_n C dX11_waits_106 rfl 0 rfl ?_
    refine gm_if_ne C 114 dX11_waits_107 (by decide) (fun c24 => ?_) (fun c24 => ?_)
    · have hf := gm_if _ c24 hf
      refine gm_iload_n C dX11_waits_114 rfl 2 rfl ?_
      exact gm_iretK C hr rfl dX11_waits_115 hf
    · have hf := gm_it _ c24 hf
      refine gm_iload_n C dX11_waits_110 rfl 1 rfl ?_
      refine gm_goto C 115 dX11_waits_111 (by decide) ?_
      exact gm_iretK C hr rfl dX11_waits_115 hf
  · have hf := gm_it _ c2 hf
    refine gm_ldc (v := (-1000000002)) C wl_960 dX11_waits_10 ?_
    exact gm_iretK C hr rfl dX11_waits_12 hf
