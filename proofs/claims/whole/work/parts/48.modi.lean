theorem dX11_lucky_0 : decode cX11_lucky 0 = .ok (.aload_n 0, 1) := by decide +kernel
theorem dX11_lucky_1 : decode cX11_lucky 1 = .ok (.iload_n 1, 1) := by decide +kernel
theorem dX11_lucky_2 : decode cX11_lucky 2 = .ok (.invokevirtual 265, 3) := by decide +kernel
theorem dX11_lucky_5 : decode cX11_lucky 5 = .ok (.ifCond .eq 13, 3) := by decide +kernel
theorem dX11_lucky_8 : decode cX11_lucky 8 = .ok (.iload_n 2, 1) := by decide +kernel
theorem dX11_lucky_9 : decode cX11_lucky 9 = .ok (.i2l, 1) := by decide +kernel
theorem dX11_lucky_10 : decode cX11_lucky 10 = .ok (.lconst 0, 1) := by decide +kernel
theorem dX11_lucky_11 : decode cX11_lucky 11 = .ok (.lconst 1, 1) := by decide +kernel
theorem dX11_lucky_12 : decode cX11_lucky 12 = .ok (.invokestatic 69, 3) := by decide +kernel
theorem dX11_lucky_15 : decode cX11_lucky 15 = .ok (.ifCond .ne 6, 3) := by decide +kernel
theorem dX11_lucky_18 : decode cX11_lucky 18 = .ok (.ldc 96, 2) := by decide +kernel
theorem dX11_lucky_20 : decode cX11_lucky 20 = .ok (.ireturn, 1) := by decide +kernel
theorem dX11_lucky_21 : decode cX11_lucky 21 = .ok (.iconst 0, 1) := by decide +kernel
theorem dX11_lucky_22 : decode cX11_lucky 22 = .ok (.istore_n 3, 1) := by decide +kernel
theorem dX11_lucky_23 : decode cX11_lucky 23 = .ok (.iconst 0, 1) := by decide +kernel
theorem dX11_lucky_24 : decode cX11_lucky 24 = .ok (.istore 4, 2) := by decide +kernel
theorem dX11_lucky_26 : decode cX11_lucky 26 = .ok (.iload 4, 2) := by decide +kernel
theorem dX11_lucky_28 : decode cX11_lucky 28 = .ok (.aload_n 0, 1) := by decide +kernel
theorem dX11_lucky_29 : decode cX11_lucky 29 = .ok (.getfield 66, 3) := by decide +kernel
theorem dX11_lucky_32 : decode cX11_lucky 32 = .ok (.if_icmp .ge 30, 3) := by decide +kernel
theorem dX11_lucky_35 : decode cX11_lucky 35 = .ok (.iload_n 3, 1) := by decide +kernel
theorem dX11_lucky_36 : decode cX11_lucky 36 = .ok (.aload_n 0, 1) := by decide +kernel
theorem dX11_lucky_37 : decode cX11_lucky 37 = .ok (.iload 4, 2) := by decide +kernel
theorem dX11_lucky_39 : decode cX11_lucky 39 = .ok (.iload_n 1, 1) := by decide +kernel
theorem dX11_lucky_40 : decode cX11_lucky 40 = .ok (.invokevirtual 214, 3) := by decide +kernel
theorem dX11_lucky_43 : decode cX11_lucky 43 = .ok (.ifCond .eq 10, 3) := by decide +kernel
theorem dX11_lucky_46 : decode cX11_lucky 46 = .ok (.iconst 1, 1) := by decide +kernel
theorem dX11_lucky_47 : decode cX11_lucky 47 = .ok (.iload 4, 2) := by decide +kernel
theorem dX11_lucky_49 : decode cX11_lucky 49 = .ok (.ishl, 1) := by decide +kernel
theorem dX11_lucky_50 : decode cX11_lucky 50 = .ok (.goto 4, 3) := by decide +kernel
theorem dX11_lucky_53 : decode cX11_lucky 53 = .ok (.iconst 0, 1) := by decide +kernel
theorem dX11_lucky_54 : decode cX11_lucky 54 = .ok (.ior, 1) := by decide +kernel
theorem dX11_lucky_55 : decode cX11_lucky 55 = .ok (.istore_n 3, 1) := by decide +kernel
theorem dX11_lucky_56 : decode cX11_lucky 56 = .ok (.iinc 4 1, 3) := by decide +kernel
theorem dX11_lucky_59 : decode cX11_lucky 59 = .ok (.goto (-33), 3) := by decide +kernel
theorem dX11_lucky_62 : decode cX11_lucky 62 = .ok (.iload_n 2, 1) := by decide +kernel
theorem dX11_lucky_63 : decode cX11_lucky 63 = .ok (.iconst 1, 1) := by decide +kernel
theorem dX11_lucky_64 : decode cX11_lucky 64 = .ok (.if_icmp .ne 7, 3) := by decide +kernel
theorem dX11_lucky_67 : decode cX11_lucky 67 = .ok (.iload_n 3, 1) := by decide +kernel
theorem dX11_lucky_68 : decode cX11_lucky 68 = .ok (.goto 16, 3) := by decide +kernel
theorem dX11_lucky_71 : decode cX11_lucky 71 = .ok (.aload_n 0, 1) := by decide +kernel
theorem dX11_lucky_72 : decode cX11_lucky 72 = .ok (.iload_n 1, 1) := by decide +kernel
theorem dX11_lucky_73 : decode cX11_lucky 73 = .ok (.invokevirtual 224, 3) := by decide +kernel
theorem dX11_lucky_76 : decode cX11_lucky 76 = .ok (.ifCond .eq 7, 3) := by decide +kernel
theorem dX11_lucky_79 : decode cX11_lucky 79 = .ok (.iconst 1, 1) := by decide +kernel
theorem dX11_lucky_80 : decode cX11_lucky 80 = .ok (.goto 4, 3) := by decide +kernel
theorem dX11_lucky_83 : decode cX11_lucky 83 = .ok (.iconst 0, 1) := by decide +kernel
theorem dX11_lucky_84 : decode cX11_lucky 84 = .ok (.ireturn, 1) := by decide +kernel
def Mo_lucky_L26_b (fl : Nat) (a0 : Int32) (S : gm_M) (rec : Int32 → Int32 → Option (Int32)) (y5 : Int32) (y6 : Int32) : Option (Int32) :=
  if S.1 0 2 ≤ y6 then (
    some (y5)
  ) else (
    gm_bp1 (Mo_isYes fl y6 a0 S) fun v9 =>
    gm_bp1 (show Option (Int32) from
      if v9 = 0 then (
        some (0)
      ) else (
        some (1 <<< (y6 &&& 31))
      )
    ) fun x10 =>
    gm_lt (α := Int32) (y5 ||| x10) fun x11 =>
    gm_lt (α := Int32) (y6 + 1) fun x12 =>
    rec x11 x12
  )
def Mo_lucky_L26 (fl : Nat) (a0 : Int32) (S : gm_M) : Nat → Int32 → Int32 → Option (Int32)
  | 0 => fun _ _ => none
  | n + 1 => Mo_lucky_L26_b fl a0 S (Mo_lucky_L26 fl a0 S n)
def Mo_lucky (fl : Nat) (a0 : Int32) (a1 : Int32) (S : gm_M) : Option Int32 :=
  gm_bp1 (Mo_isNumber a0 S) fun v1 =>
  if v1 = 0 then (
    some ((-1000000002))
  ) else (
    gm_bp1 (Mo_in ((a1 : Int32).toInt64) 0 1) fun v3 =>
    if v3 = 0 then (
      some ((-1000000002))
    ) else (
      gm_bp1 (Mo_lucky_L26 fl a0 S fl 0 0) fun z7 =>
      if a1 = 1 then (
        some (z7)
      ) else (
        gm_bp1 (Mo_isLucky fl a0 S) fun v15 =>
        if v15 = 0 then (
          some (0)
        ) else (
          some (1)
        )
      )
    )
  )
set_option maxHeartbeats 4000000 in
set_option maxRecDepth 100000 in
theorem Mo_lucky_c (l : Launch) (cf : gm_C) (ad : Nat → Nat) {fl : Nat}   {a0 : Int32} {a1 : Int32} {S : gm_M} {r : Int32}  (hf : Mo_lucky fl a0 a1 S = some r) : gm_Met l yX11_lucky cX11_lucky 5 (some .int) 6 141 cf ad gm_sM 17 [.ref (ad 0), .int a0, .int a1] S (some (.int r)) S := by
  refine gm_met (by decide +kernel) (Nat.le_of_ble_eq_true rfl) ?_
  intro p e s m args below meth c C hr
  have C : gm_F p s m args meth c cf ad 17 cX11_lucky 5 RX11 := C
  refine gm_lve (lv' := [(0, .ref (ad 0)), (1, .int a0), (2, .int a1)]) rfl ?_
  unfold Mo_lucky at hf
  refine gm_aload_n C dX11_lucky_0 rfl 0 rfl ?_
  refine gm_iload_n C dX11_lucky_1 rfl 1 rfl ?_
  obtain ⟨v1, ev1, hf⟩ := gm_bp1_s hf
  refine gm_callVi (As := [.int a0]) C (Mo_isNumber_c l cf ad ev1) (Nat.le_of_ble_eq_true rfl) rfl kc_11 wy_Mo_isNumber rfl wl_1167 rfl ⟨(Nat.le_of_ble_eq_true rfl), (Nat.le_of_ble_eq_true rfl)⟩ rfl (Nat.le_of_ble_eq_true rfl) dX11_lucky_2 ?_
  refine gm_if_eq C 18 dX11_lucky_5 (by decide) (fun c2 => ?_) (fun c2 => ?_)
  · have hf := gm_it _ c2 hf
    refine gm_ldc (v := (-1000000002)) C wl_960 dX11_lucky_18 ?_
    exact gm_iretK C hr rfl dX11_lucky_20 hf
  · have hf := gm_if _ c2 hf
    refine gm_iload_n C dX11_lucky_8 rfl 2 rfl ?_
    refine gm_i2l C dX11_lucky_9 rfl ?_
    refine gm_lconst (v := 0) C dX11_lucky_10 (by decide) ?_
    refine gm_lconst (v := 1) C dX11_lucky_11 (by decide) ?_
    obtain ⟨v3, ev3, hf⟩ := gm_bp1_s hf
    refine gm_callSi (As := [.long ((a1 : Int32).toInt64), .long 0, .long 1]) C (Mo_in_c l cf ad ev3 (S := S)) wy_Mo_in wl_957 rfl ⟨(Nat.le_of_ble_eq_true rfl), (Nat.le_of_ble_eq_true rfl)⟩ rfl (Nat.le_of_ble_eq_true rfl) dX11_lucky_12 ?_
    refine gm_if_ne C 21 dX11_lucky_15 (by decide) (fun c4 => ?_) (fun c4 => ?_)
    · have hf := gm_if _ c4 hf
      refine gm_iconst (v := 0) C dX11_lucky_21 (by decide) ?_
      refine gm_istore_n (lv' := [(3, .int 0), (0, .ref (ad 0)), (1, .int a0), (2, .int a1)]) C dX11_lucky_22 rfl (by decide) rfl ?_
      refine gm_iconst (v := 0) C dX11_lucky_23 (by decide) ?_
      refine gm_istore (lv' := [(4, .int 0), (3, .int 0), (0, .ref (ad 0)), (1, .int a0), (2, .int a1)]) C dX11_lucky_24 (by decide) rfl ?_
      have L26 : ∀ (n : Nat) (y5 : Int32) (y6 : Int32) (z7 : Int32), Mo_lucky_L26 fl a0 S n y5 y6 = some (z7) → gm_G p l e { frames := 6, cells := 0, slots := 0, locals := 141 } s m args below meth c (MQ below (gm_Q cf ad gm_sM 17 (some (.int r)) S) args s 0 0 (gm_A ad 17)) cf ad gm_sM 17 5 S 62 [(0, .ref (ad 0)), (1, .int a0), (2, .int a1), (3, .int z7)] [] → gm_G p l e { frames := 6, cells := 0, slots := 0, locals := 141 } s m args below meth c (MQ below (gm_Q cf ad gm_sM 17 (some (.int r)) S) args s 0 0 (gm_A ad 17)) cf ad gm_sM 17 5 S 26 [(0, .ref (ad 0)), (1, .int a0), (2, .int a1), (3, .int y5), (4, .int y6)] [] := by
        intro n
        induction n with
        | zero => intro y5 y6 z7 hf K; cases (show (none : Option _) = some _ from hf)
        | succ n ih =>
          intro y5 y6 z7 hf K
          have hf : Mo_lucky_L26_b fl a0 S (Mo_lucky_L26 fl a0 S n) y5 y6 = some (z7) := hf
          unfold Mo_lucky_L26_b at hf
          refine gm_iload C dX11_lucky_26 4 rfl ?_
          refine gm_aload_n C dX11_lucky_28 rfl 0 rfl ?_
          refine gm_geti C (Nat.le_of_ble_eq_true rfl) rfl kc_11 (k := 2) rfl (by decide) rfl wl_842 dX11_lucky_29 ?_
          refine gm_icmp_ge C 62 dX11_lucky_32 (by decide) (fun c8 => ?_) (fun c8 => ?_)
          · have hf := gm_it _ c8 hf
            cases hf
            exact gm_lvp [0, 1, 2, 3] rfl K
          · have hf := gm_if _ c8 hf
            refine gm_iload_n C dX11_lucky_35 rfl 3 rfl ?_
            refine gm_aload_n C dX11_lucky_36 rfl 0 rfl ?_
            refine gm_iload C dX11_lucky_37 4 rfl ?_
            refine gm_iload_n C dX11_lucky_39 rfl 1 rfl ?_
            obtain ⟨v9, ev9, hf⟩ := gm_bp1_s hf
            refine gm_callVi (As := [.int y6, .int a0]) C (Mo_isYes_c l cf ad ev9) (Nat.le_of_ble_eq_true rfl) rfl kc_11 wy_Mo_isYes rfl wl_1050 rfl ⟨(Nat.le_of_ble_eq_true rfl), (Nat.le_of_ble_eq_true rfl)⟩ rfl (Nat.le_of_ble_eq_true rfl) dX11_lucky_40 ?_
            obtain ⟨x10, hx, hf⟩ := gm_bp1_s hf
            have key : gm_G p l e { frames := 6, cells := 0, slots := 0, locals := 141 } s m args below meth c (MQ below (gm_Q cf ad gm_sM 17 (some (.int r)) S) args s 0 0 (gm_A ad 17)) cf ad gm_sM 17 5 S 54 [(0, .ref (ad 0)), (1, .int a0), (2, .int a1), (4, .int y6)] [.int x10, .int y5] := by
              refine gm_ior C dX11_lucky_54 ?_
              obtain ⟨x11, ex11, hf⟩ := gm_lt_s hf
              refine gm_topi ex11 ?_
              refine gm_istore_n (lv' := [(3, .int x11), (0, .ref (ad 0)), (1, .int a0), (2, .int a1), (4, .int y6)]) C dX11_lucky_55 rfl (by decide) rfl ?_
              obtain ⟨x12, ex12, hf⟩ := gm_lt_s hf
              refine gm_iinc (v := x12) (lv' := [(4, .int x12), (3, .int x11), (0, .ref (ad 0)), (1, .int a0), (2, .int a1)]) (j := 4) C dX11_lucky_56 rfl (by rw [ex12]; rfl) (by decide) rfl ?_
              refine gm_goto C 26 dX11_lucky_59 (by decide) ?_
              exact gm_lvp [2, 3, 4, 1, 0] rfl (ih _ _ _ hf K)
            have hf := hx
            refine gm_if_eq C 53 dX11_lucky_43 (by decide) (fun c13 => ?_) (fun c13 => ?_)
            · have hf := gm_it _ c13 hf
              refine gm_iconst (v := 0) C dX11_lucky_53 (by decide) ?_
              cases hf
              exact gm_lvp [0, 1, 2, 4] rfl key
            · have hf := gm_if _ c13 hf
              refine gm_iconst (v := 1) C dX11_lucky_46 (by decide) ?_
              refine gm_iload C dX11_lucky_47 4 rfl ?_
              refine gm_ishl C dX11_lucky_49 ?_
              refine gm_goto C 54 dX11_lucky_50 (by decide) ?_
              cases hf
              exact gm_lvp [0, 1, 2, 4] rfl key
      obtain ⟨z7, hx, hf⟩ := gm_bp1_s hf
      refine gm_lvp [2, 3, 4, 1, 0] rfl (L26 fl _ _ _ hx ?_)
      refine gm_iload_n C dX11_lucky_62 rfl 2 rfl ?_
      refine gm_iconst (v := 1) C dX11_lucky_63 (by decide) ?_
      refine gm_icmp_ne C 71 dX11_lucky_64 (by decide) (fun c14 => ?_) (fun c14 => ?_)
      · have hf := gm_if _ c14 hf
        refine gm_aload_n C dX11_lucky_71 rfl 0 rfl ?_
        refine gm_iload_n C dX11_lucky_72 rfl 1 rfl ?_
        obtain ⟨v15, ev15, hf⟩ := gm_bp1_s hf
        refine gm_callVi (As := [.int a0]) C (Mo_isLucky_c l cf ad ev15) (Nat.le_of_ble_eq_true rfl) rfl kc_11 wy_Mo_isLucky rfl wl_1086 rfl ⟨(Nat.le_of_ble_eq_true rfl), (Nat.le_of_ble_eq_true rfl)⟩ rfl (Nat.le_of_ble_eq_true rfl) dX11_lucky_73 ?_
        refine gm_if_eq C 83 dX11_lucky_76 (by decide) (fun c16 => ?_) (fun c16 => ?_)
        · have hf := gm_it _ c16 hf
          refine gm_iconst (v := 0) C dX11_lucky_83 (by decide) ?_
          exact gm_iretK C hr rfl dX11_lucky_84 hf
        · have hf := gm_if _ c16 hf
          refine gm_iconst (v := 1) C dX11_lucky_79 (by decide) ?_
          refine gm_goto C 84 dX11_lucky_80 (by decide) ?_
          exact gm_iretK C hr rfl dX11_lucky_84 hf
      · have hf := gm_it _ c14 hf
        refine gm_iload_n C dX11_lucky_67 rfl 3 rfl ?_
        refine gm_goto C 84 dX11_lucky_68 (by decide) ?_
        exact gm_iretK C hr rfl dX11_lucky_84 hf
    · have hf := gm_it _ c4 hf
      refine gm_ldc (v := (-1000000002)) C wl_960 dX11_lucky_18 ?_
      exact gm_iretK C hr rfl dX11_lucky_20 hf
theorem dX11_remember_0 : decode cX11_remember 0 = .ok (.aload_n 0, 1) := by decide +kernel
theorem dX11_remember_1 : decode cX11_remember 1 = .ok (.getfield 191, 3) := by decide +kernel
theorem dX11_remember_4 : decode cX11_remember 4 = .ok (.bipush 16, 2) := by decide +kernel
theorem dX11_remember_6 : decode cX11_remember 6 = .ok (.if_icmp .ne 44, 3) := by decide +kernel
theorem dX11_remember_9 : decode cX11_remember 9 = .ok (.bipush 42, 2) := by decide +kernel
theorem dX11_remember_11 : decode cX11_remember 11 = .ok (.istore_n 1, 1) := by decide +kernel
theorem dX11_remember_12 : decode cX11_remember 12 = .ok (.iload_n 1, 1) := by decide +kernel
theorem dX11_remember_13 : decode cX11_remember 13 = .ok (.sipush 672, 3) := by decide +kernel
theorem dX11_remember_16 : decode cX11_remember 16 = .ok (.if_icmp .ge 24, 3) := by decide +kernel
theorem dX11_remember_19 : decode cX11_remember 19 = .ok (.aload_n 0, 1) := by decide +kernel
theorem dX11_remember_20 : decode cX11_remember 20 = .ok (.getfield 41, 3) := by decide +kernel
theorem dX11_remember_23 : decode cX11_remember 23 = .ok (.iload_n 1, 1) := by decide +kernel
theorem dX11_remember_24 : decode cX11_remember 24 = .ok (.bipush 42, 2) := by decide +kernel
theorem dX11_remember_26 : decode cX11_remember 26 = .ok (.isub, 1) := by decide +kernel
theorem dX11_remember_27 : decode cX11_remember 27 = .ok (.aload_n 0, 1) := by decide +kernel
theorem dX11_remember_28 : decode cX11_remember 28 = .ok (.getfield 41, 3) := by decide +kernel
theorem dX11_remember_31 : decode cX11_remember 31 = .ok (.iload_n 1, 1) := by decide +kernel
theorem dX11_remember_32 : decode cX11_remember 32 = .ok (.iaload, 1) := by decide +kernel
theorem dX11_remember_33 : decode cX11_remember 33 = .ok (.iastore, 1) := by decide +kernel
theorem dX11_remember_34 : decode cX11_remember 34 = .ok (.iinc 1 1, 3) := by decide +kernel
theorem dX11_remember_37 : decode cX11_remember 37 = .ok (.goto (-25), 3) := by decide +kernel
theorem dX11_remember_40 : decode cX11_remember 40 = .ok (.aload_n 0, 1) := by decide +kernel
theorem dX11_remember_41 : decode cX11_remember 41 = .ok (.dup, 1) := by decide +kernel
theorem dX11_remember_42 : decode cX11_remember 42 = .ok (.getfield 191, 3) := by decide +kernel
theorem dX11_remember_45 : decode cX11_remember 45 = .ok (.iconst 1, 1) := by decide +kernel
theorem dX11_remember_46 : decode cX11_remember 46 = .ok (.isub, 1) := by decide +kernel
theorem dX11_remember_47 : decode cX11_remember 47 = .ok (.putfield 191, 3) := by decide +kernel
theorem dX11_remember_50 : decode cX11_remember 50 = .ok (.iconst 0, 1) := by decide +kernel
theorem dX11_remember_51 : decode cX11_remember 51 = .ok (.istore_n 1, 1) := by decide +kernel
theorem dX11_remember_52 : decode cX11_remember 52 = .ok (.iload_n 1, 1) := by decide +kernel
theorem dX11_remember_53 : decode cX11_remember 53 = .ok (.bipush 42, 2) := by decide +kernel
theorem dX11_remember_55 : decode cX11_remember 55 = .ok (.if_icmp .ge 29, 3) := by decide +kernel
theorem dX11_remember_58 : decode cX11_remember 58 = .ok (.aload_n 0, 1) := by decide +kernel
theorem dX11_remember_59 : decode cX11_remember 59 = .ok (.getfield 41, 3) := by decide +kernel
theorem dX11_remember_62 : decode cX11_remember 62 = .ok (.bipush 42, 2) := by decide +kernel
theorem dX11_remember_64 : decode cX11_remember 64 = .ok (.aload_n 0, 1) := by decide +kernel
theorem dX11_remember_65 : decode cX11_remember 65 = .ok (.getfield 191, 3) := by decide +kernel
theorem dX11_remember_68 : decode cX11_remember 68 = .ok (.imul, 1) := by decide +kernel
theorem dX11_remember_69 : decode cX11_remember 69 = .ok (.iload_n 1, 1) := by decide +kernel
theorem dX11_remember_70 : decode cX11_remember 70 = .ok (.iadd, 1) := by decide +kernel
theorem dX11_remember_71 : decode cX11_remember 71 = .ok (.aload_n 0, 1) := by decide +kernel
theorem dX11_remember_72 : decode cX11_remember 72 = .ok (.getfield 13, 3) := by decide +kernel
theorem dX11_remember_75 : decode cX11_remember 75 = .ok (.iload_n 1, 1) := by decide +kernel
theorem dX11_remember_76 : decode cX11_remember 76 = .ok (.iaload, 1) := by decide +kernel
theorem dX11_remember_77 : decode cX11_remember 77 = .ok (.iastore, 1) := by decide +kernel
theorem dX11_remember_78 : decode cX11_remember 78 = .ok (.iinc 1 1, 3) := by decide +kernel
theorem dX11_remember_81 : decode cX11_remember 81 = .ok (.goto (-29), 3) := by decide +kernel
theorem dX11_remember_84 : decode cX11_remember 84 = .ok (.aload_n 0, 1) := by decide +kernel
theorem dX11_remember_85 : decode cX11_remember 85 = .ok (.dup, 1) := by decide +kernel
theorem dX11_remember_86 : decode cX11_remember 86 = .ok (.getfield 191, 3) := by decide +kernel
theorem dX11_remember_89 : decode cX11_remember 89 = .ok (.iconst 1, 1) := by decide +kernel
theorem dX11_remember_90 : decode cX11_remember 90 = .ok (.iadd, 1) := by decide +kernel
theorem dX11_remember_91 : decode cX11_remember 91 = .ok (.putfield 191, 3) := by decide +kernel
theorem dX11_remember_94 : decode cX11_remember 94 = .ok (.return_, 1) := by decide +kernel
def Mo_remember_L52_b  (rec : Int32 → gm_M → Option (gm_M)) (y2 : Int32) (S3 : gm_M) : Option (gm_M) :=
  if (42 : Int32) ≤ y2 then (
    some (S3)
  ) else (
    gm_ck (y2) 42 <|
    gm_ck ((42 * (S3.1 0 27)) + y2) 672 <|
    gm_lt (α := gm_M) (gm_ui S3 10 (((42 * (S3.1 0 27)) + y2).toNatClampNeg) (S3.1 2 y2.toNatClampNeg)) fun S8 =>
    gm_lt (α := Int32) (y2 + 1) fun x9 =>
    rec x9 S8
  )
def Mo_remember_L52  : Nat → Int32 → gm_M → Option (gm_M)
  | 0 => fun _ _ => none
  | n + 1 => Mo_remember_L52_b  (Mo_remember_L52  n)
def Mo_remember_L12_b  (rec : Int32 → gm_M → Option (gm_M)) (y12 : Int32) (S13 : gm_M) : Option (gm_M) :=
  if (672 : Int32) ≤ y12 then (
    some (S13)
  ) else (
    gm_ck (y12) 672 <|
    gm_ck (y12 - 42) 672 <|
    gm_lt (α := gm_M) (gm_ui S13 10 ((y12 - 42).toNatClampNeg) (S13.1 10 y12.toNatClampNeg)) fun S18 =>
    gm_lt (α := Int32) (y12 + 1) fun x19 =>
    rec x19 S18
  )
def Mo_remember_L12  : Nat → Int32 → gm_M → Option (gm_M)
  | 0 => fun _ _ => none
  | n + 1 => Mo_remember_L12_b  (Mo_remember_L12  n)
def Mo_remember (fl : Nat) (S : gm_M) : Option gm_M :=
  gm_bp1 (show Option (gm_M) from
    if S.1 0 27 = 16 then (
      gm_bp1 (Mo_remember_L12  fl 42 S) fun S14 =>
      gm_lt (α := gm_M) (gm_ui S14 0 27 ((S14.1 0 27) - 1)) fun S20 =>
      some (S20)
    ) else (
      some (S)
    )
  ) fun S1 =>
  gm_bp1 (Mo_remember_L52  fl 0 S1) fun S4 =>
  gm_lt (α := gm_M) (gm_ui S4 0 27 ((S4.1 0 27) + 1)) fun S10 =>
  some S10
set_option maxHeartbeats 4000000 in
set_option maxRecDepth 100000 in
theorem Mo_remember_c (l : Launch) (cf : gm_C) (ad : Nat → Nat) {fl : Nat}    {S : gm_M}  {S'  : gm_M} (hf : Mo_remember fl S = some S') : gm_Met l yX11_remember cX11_remember 2 none 0 0 cf ad gm_sM 17 [.ref (ad 0)] S none S' := by
  refine gm_met (by decide +kernel) (Nat.le_of_ble_eq_true rfl) ?_
  intro p e s m args below meth c C hr
  have C : gm_F p s m args meth c cf ad 17 cX11_remember 2 RX11 := C
  refine gm_lve (lv' := [(0, .ref (ad 0))]) rfl ?_
  unfold Mo_remember at hf
  refine gm_aload_n C dX11_remember_0 rfl 0 rfl ?_
  refine gm_geti C (Nat.le_of_ble_eq_true rfl) rfl kc_11 (k := 27) rfl (by decide) rfl wl_867 dX11_remember_1 ?_
  refine gm_bipush (v := 16) C dX11_remember_4 (by decide) ?_
  obtain ⟨S1, hx, hf⟩ := gm_bp1_s hf
  have key : gm_G p l e { frames := 0, cells := 0, slots := 0, locals := 0 } s m args below meth c (MQ below (gm_Q cf ad gm_sM 17 none S') args s 0 0 (gm_A ad 17)) cf ad gm_sM 17 2 S1 50 [(0, .ref (ad 0))] [] := by
    refine gm_iconst (v := 0) C dX11_remember_50 (by decide) ?_
    refine gm_istore_n (lv' := [(1, .int 0), (0, .ref (ad 0))]) C dX11_remember_51 rfl (by decide) rfl ?_
    have L52 : ∀ (n : Nat) (y2 : Int32) (S3 : gm_M) (S4 : gm_M), Mo_remember_L52  n y2 S3 = some (S4) → gm_G p l e { frames := 0, cells := 0, slots := 0, locals := 0 } s m args below meth c (MQ below (gm_Q cf ad gm_sM 17 none S') args s 0 0 (gm_A ad 17)) cf ad gm_sM 17 2 S4 84 [(0, .ref (ad 0))] [] → gm_G p l e { frames := 0, cells := 0, slots := 0, locals := 0 } s m args below meth c (MQ below (gm_Q cf ad gm_sM 17 none S') args s 0 0 (gm_A ad 17)) cf ad gm_sM 17 2 S3 52 [(0, .ref (ad 0)), (1, .int y2)] [] := by
      intro n
      induction n with
      | zero => intro y2 S3 S4 hf K; cases (show (none : Option _) = some _ from hf)
      | succ n ih =>
        intro y2 S3 S4 hf K
        have hf : Mo_remember_L52_b  (Mo_remember_L52  n) y2 S3 = some (S4) := hf
        unfold Mo_remember_L52_b at hf
        refine gm_iload_n C dX11_remember_52 rfl 1 rfl ?_
        refine gm_bipush (v := 42) C dX11_remember_53 (by decide) ?_
        refine gm_icmp_ge C 84 dX11_remember_55 (by decide) (fun c5 => ?_) (fun c5 => ?_)
        · have hf := gm_it _ c5 hf
          cases hf
          exact gm_lvp [0] rfl K
        · have hf := gm_if _ c5 hf
          refine gm_aload_n C dX11_remember_58 rfl 0 rfl ?_
          refine gm_getr (j := 10) (u := 10) C (Nat.le_of_ble_eq_true rfl) rfl kc_11 (k := 28) rfl (by decide) rfl rfl wl_868 dX11_remember_59 ?_
          refine gm_bipush (v := 42) C dX11_remember_62 (by decide) ?_
          refine gm_aload_n C dX11_remember_64 rfl 0 rfl ?_
          refine gm_geti C (Nat.le_of_ble_eq_true rfl) rfl kc_11 (k := 27) rfl (by decide) rfl wl_867 dX11_remember_65 ?_
          refine gm_imul C dX11_remember_68 ?_
          refine gm_iload_n C dX11_remember_69 rfl 1 rfl ?_
          refine gm_iadd C dX11_remember_70 ?_
          refine gm_aload_n C dX11_remember_71 rfl 0 rfl ?_
          refine gm_getr (j := 2) (u := 2) C (Nat.le_of_ble_eq_true rfl) rfl kc_11 (k := 6) rfl (by decide) rfl rfl wl_846 dX11_remember_72 ?_
          refine gm_iload_n C dX11_remember_75 rfl 1 rfl ?_
          obtain ⟨h6, hf⟩ := gm_ck_s hf
          refine gm_iald C (Nat.le_of_ble_eq_true rfl) rfl rfl h6 dX11_remember_76 ?_
          obtain ⟨h7, hf⟩ := gm_ck_s hf
          refine gm_iast C (Nat.le_of_ble_eq_true rfl) rfl rfl h7 dX11_remember_77 ?_
          obtain ⟨S8, eS8, hf⟩ := gm_lt_s hf
          refine gm_topm eS8 ?_
          obtain ⟨x9, ex9, hf⟩ := gm_lt_s hf
          refine gm_iinc (v := x9) (lv' := [(1, .int x9), (0, .ref (ad 0))]) (j := 1) C dX11_remember_78 rfl (by rw [ex9]; rfl) (by decide) rfl ?_
          refine gm_goto C 52 dX11_remember_81 (by decide) ?_
          exact gm_lvp [1, 0] rfl (ih _ _ _ hf K)
    obtain ⟨S4, hx, hf⟩ := gm_bp1_s hf
    refine gm_lvp [1, 0] rfl (L52 fl _ _ _ hx ?_)
    refine gm_aload_n C dX11_remember_84 rfl 0 rfl ?_
    refine gm_dup C dX11_remember_85 rfl ?_
    refine gm_geti C (Nat.le_of_ble_eq_true rfl) rfl kc_11 (k := 27) rfl (by decide) rfl wl_867 dX11_remember_86 ?_
    refine gm_iconst (v := 1) C dX11_remember_89 (by decide) ?_
    refine gm_iadd C dX11_remember_90 ?_
    refine gm_puti C (Nat.le_of_ble_eq_true rfl) rfl kc_11 (k := 27) rfl (by decide) rfl rfl (kc_11.2.2.2.1 27 (by decide)) rfl rfl wl_867 dX11_remember_91 ?_
    obtain ⟨S10, eS10, hf⟩ := gm_lt_s hf
    refine gm_topm eS10 ?_
    exact gm_vret C hr dX11_remember_94 hf
  have hf := hx
  refine gm_icmp_ne C 50 dX11_remember_6 (by decide) (fun c11 => ?_) (fun c11 => ?_)
  · have hf := gm_if _ c11 hf
    cases hf
    exact gm_lvp [0] rfl key
  · have hf := gm_it _ c11 hf
    refine gm_bipush (v := 42) C dX11_remember_9 (by decide) ?_
    refine gm_istore_n (lv' := [(1, .int 42), (0, .ref (ad 0))]) C dX11_remember_11 rfl (by decide) rfl ?_
    have L12 : ∀ (n : Nat) (y12 : Int32) (S13 : gm_M) (S14 : gm_M), Mo_remember_L12  n y12 S13 = some (S14) → gm_G p l e { frames := 0, cells := 0, slots := 0, locals := 0 } s m args below meth c (MQ below (gm_Q cf ad gm_sM 17 none S') args s 0 0 (gm_A ad 17)) cf ad gm_sM 17 2 S14 40 [(0, .ref (ad 0))] [] → gm_G p l e { frames := 0, cells := 0, slots := 0, locals := 0 } s m args below meth c (MQ below (gm_Q cf ad gm_sM 17 none S') args s 0 0 (gm_A ad 17)) cf ad gm_sM 17 2 S13 12 [(0, .ref (ad 0)), (1, .int y12)] [] := by
      intro n
      induction n with
      | zero => intro y12 S13 S14 hf K; cases (show (none : Option _) = some _ from hf)
      | succ n ih =>
        intro y12 S13 S14 hf K
        have hf : Mo_remember_L12_b  (Mo_remember_L12  n) y12 S13 = some (S14) := hf
        unfold Mo_remember_L12_b at hf
        refine gm_iload_n C dX11_remember_12 rfl 1 rfl ?_
        refine gm_sipush (v := 672) C dX11_remember_13 (by decide) ?_
        refine gm_icmp_ge C 40 dX11_remember_16 (by decide) (fun c15 => ?_) (fun c15 => ?_)
        · have hf := gm_it _ c15 hf
          cases hf
          exact gm_lvp [0] rfl K
        · have hf := gm_if _ c15 hf
          refine gm_aload_n C dX11_remember_19 rfl 0 rfl ?_
          refine gm_getr (j := 10) (u := 10) C (Nat.le_of_ble_eq_true rfl) rfl kc_11 (k := 28) rfl (by decide) rfl rfl wl_868 dX11_remember_20 ?_
          refine gm_iload_n C dX11_remember_23 rfl 1 rfl ?_
          refine gm_bipush (v := 42) C dX11_remember_24 (by decide) ?_
          refine gm_isub C dX11_remember_26 ?_
          refine gm_aload_n C dX11_remember_27 rfl 0 rfl ?_
          refine gm_getr (j := 10) (u := 10) C (Nat.le_of_ble_eq_true rfl) rfl kc_11 (k := 28) rfl (by decide) rfl rfl wl_868 dX11_remember_28 ?_
          refine gm_iload_n C dX11_remember_31 rfl 1 rfl ?_
          obtain ⟨h16, hf⟩ := gm_ck_s hf
          refine gm_iald C (Nat.le_of_ble_eq_true rfl) rfl rfl h16 dX11_remember_32 ?_
          obtain ⟨h17, hf⟩ := gm_ck_s hf
          refine gm_iast C (Nat.le_of_ble_eq_true rfl) rfl rfl h17 dX11_remember_33 ?_
          obtain ⟨S18, eS18, hf⟩ := gm_lt_s hf
          refine gm_topm eS18 ?_
          obtain ⟨x19, ex19, hf⟩ := gm_lt_s hf
          refine gm_iinc (v := x19) (lv' := [(1, .int x19), (0, .ref (ad 0))]) (j := 1) C dX11_remember_34 rfl (by rw [ex19]; rfl) (by decide) rfl ?_
          refine gm_goto C 12 dX11_remember_37 (by decide) ?_
          exact gm_lvp [1, 0] rfl (ih _ _ _ hf K)
    obtain ⟨S14, hx, hf⟩ := gm_bp1_s hf
    refine gm_lvp [1, 0] rfl (L12 fl _ _ _ hx ?_)
    refine gm_aload_n C dX11_remember_40 rfl 0 rfl ?_
    refine gm_dup C dX11_remember_41 rfl ?_
    refine gm_geti C (Nat.le_of_ble_eq_true rfl) rfl kc_11 (k := 27) rfl (by decide) rfl wl_867 dX11_remember_42 ?_
    refine gm_iconst (v := 1) C dX11_remember_45 (by decide) ?_
    refine gm_isub C dX11_remember_46 ?_
    refine gm_puti C (Nat.le_of_ble_eq_true rfl) rfl kc_11 (k := 27) rfl (by decide) rfl rfl (kc_11.2.2.2.1 27 (by decide)) rfl rfl wl_867 dX11_remember_47 ?_
    obtain ⟨S20, eS20, hf⟩ := gm_lt_s hf
    refine gm_topm eS20 ?_
    cases hf
    exact gm_lvp [0] rfl key
theorem dX11_more_0 : decode cX11_more 0 = .ok (.aload_n 0, 1) := by decide +kernel
theorem dX11_more_1 : decode cX11_more 1 = .ok (.getfield 13, 3) := by decide +kernel
theorem dX11_more_4 : decode cX11_more 4 = .ok (.iload_n 1, 1) := by decide +kernel
theorem dX11_more_5 : decode cX11_more 5 = .ok (.dup2, 1) := by decide +kernel
theorem dX11_more_6 : decode cX11_more 6 = .ok (.iaload, 1) := by decide +kernel
theorem dX11_more_7 : decode cX11_more 7 = .ok (.aload_n 0, 1) := by decide +kernel
theorem dX11_more_8 : decode cX11_more 8 = .ok (.getfield 13, 3) := by decide +kernel
theorem dX11_more_11 : decode cX11_more 11 = .ok (.iload_n 1, 1) := by decide +kernel
theorem dX11_more_12 : decode cX11_more 12 = .ok (.iaload, 1) := by decide +kernel
theorem dX11_more_13 : decode cX11_more 13 = .ok (.sipush 9999, 3) := by decide +kernel
theorem dX11_more_16 : decode cX11_more 16 = .ok (.if_icmp .ge 7, 3) := by decide +kernel
theorem dX11_more_19 : decode cX11_more 19 = .ok (.iconst 1, 1) := by decide +kernel
theorem dX11_more_20 : decode cX11_more 20 = .ok (.goto 4, 3) := by decide +kernel
theorem dX11_more_23 : decode cX11_more 23 = .ok (.iconst 0, 1) := by decide +kernel
theorem dX11_more_24 : decode cX11_more 24 = .ok (.iadd, 1) := by decide +kernel
theorem dX11_more_25 : decode cX11_more 25 = .ok (.iastore, 1) := by decide +kernel
theorem dX11_more_26 : decode cX11_more 26 = .ok (.return_, 1) := by decide +kernel
def Mo_more (a0 : Int32) (S : gm_M) : Option gm_M :=
  gm_ck (a0) 42 <|
  gm_ck (a0) 42 <|
  if (9999 : Int32) ≤ S.1 2 a0.toNatClampNeg then (
    gm_ck (a0) 42 <|
    gm_lt (α := gm_M) (gm_ui S 2 (a0.toNatClampNeg) ((S.1 2 a0.toNatClampNeg) + 0)) fun S5 =>
    some S5
  ) else (
    gm_ck (a0) 42 <|
    gm_lt (α := gm_M) (gm_ui S 2 (a0.toNatClampNeg) ((S.1 2 a0.toNatClampNeg) + 1)) fun S7 =>
    some S7
  )
set_option maxHeartbeats 4000000 in
set_option maxRecDepth 100000 in
theorem Mo_more_c (l : Launch) (cf : gm_C) (ad : Nat → Nat)    {a0 : Int32} {S : gm_M}  {S'  : gm_M} (hf : Mo_more a0 S = some S') : gm_Met l yX11_more cX11_more 2 none 0 0 cf ad gm_sM 17 [.ref (ad 0), .int a0] S none S' := by
  refine gm_met (by decide +kernel) (Nat.le_of_ble_eq_true rfl) ?_
  intro p e s m args below meth c C hr
  have C : gm_F p s m args meth c cf ad 17 cX11_more 2 RX11 := C
  refine gm_lve (lv' := [(0, .ref (ad 0)), (1, .int a0)]) rfl ?_
  unfold Mo_more at hf
  refine gm_aload_n C dX11_more_0 rfl 0 rfl ?_
  refine gm_getr (j := 2) (u := 2) C (Nat.le_of_ble_eq_true rfl) rfl kc_11 (k := 6) rfl (by decide) rfl rfl wl_846 dX11_more_1 ?_
  refine gm_iload_n C dX11_more_4 rfl 1 rfl ?_
  refine gm_dup2_11 C dX11_more_5 rfl rfl ?_
  obtain ⟨h1, hf⟩ := gm_ck_s hf
  refine gm_iald C (Nat.le_of_ble_eq_true rfl) rfl rfl h1 dX11_more_6 ?_
  refine gm_aload_n C dX11_more_7 rfl 0 rfl ?_
  refine gm_getr (j := 2) (u := 2) C (Nat.le_of_ble_eq_true rfl) rfl kc_11 (k := 6) rfl (by decide) rfl rfl wl_846 dX11_more_8 ?_
  refine gm_iload_n C dX11_more_11 rfl 1 rfl ?_
  obtain ⟨h2, hf⟩ := gm_ck_s hf
  refine gm_iald C (Nat.le_of_ble_eq_true rfl) rfl rfl h2 dX11_more_12 ?_
  refine gm_sipush (v := 9999) C dX11_more_13 (by decide) ?_
  refine gm_icmp_ge C 23 dX11_more_16 (by decide) (fun c3 => ?_) (fun c3 => ?_)
  · have hf := gm_it _ c3 hf
    refine gm_iconst (v := 0) C dX11_more_23 (by decide) ?_
    refine gm_iadd C dX11_more_24 ?_
    obtain ⟨h4, hf⟩ := gm_ck_s hf
    refine gm_iast C (Nat.le_of_ble_eq_true rfl) rfl rfl h4 dX11_more_25 ?_
    obtain ⟨S5, eS5, hf⟩ := gm_lt_s hf
    refine gm_topm eS5 ?_
    exact gm_vret C hr dX11_more_26 hf
  · have hf := gm_if _ c3 hf
    refine gm_iconst (v := 1) C dX11_more_19 (by decide) ?_
    refine gm_goto C 24 dX11_more_20 (by decide) ?_
    refine gm_iadd C dX11_more_24 ?_
    obtain ⟨h6, hf⟩ := gm_ck_s hf
    refine gm_iast C (Nat.le_of_ble_eq_true rfl) rfl rfl h6 dX11_more_25 ?_
    obtain ⟨S7, eS7, hf⟩ := gm_lt_s hf
    refine gm_topm eS7 ?_
    exact gm_vret C hr dX11_more_26 hf
