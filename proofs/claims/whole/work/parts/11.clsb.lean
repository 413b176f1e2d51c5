theorem dX5_readNumber_0 : decode cX5_readNumber 0 = .ok (.aload_n 0, 1) := by decide +kernel
theorem dX5_readNumber_1 : decode cX5_readNumber 1 = .ok (.invokevirtual 42, 3) := by decide +kernel
theorem dX5_readNumber_4 : decode cX5_readNumber 4 = .ok (.aload_n 0, 1) := by decide +kernel
theorem dX5_readNumber_5 : decode cX5_readNumber 5 = .ok (.aload_n 0, 1) := by decide +kernel
theorem dX5_readNumber_6 : decode cX5_readNumber 6 = .ok (.getfield 28, 3) := by decide +kernel
theorem dX5_readNumber_9 : decode cX5_readNumber 9 = .ok (.putfield 105, 3) := by decide +kernel
theorem dX5_readNumber_12 : decode cX5_readNumber 12 = .ok (.iconst 0, 1) := by decide +kernel
theorem dX5_readNumber_13 : decode cX5_readNumber 13 = .ok (.istore_n 3, 1) := by decide +kernel
theorem dX5_readNumber_14 : decode cX5_readNumber 14 = .ok (.iconst 0, 1) := by decide +kernel
theorem dX5_readNumber_15 : decode cX5_readNumber 15 = .ok (.istore 4, 2) := by decide +kernel
theorem dX5_readNumber_17 : decode cX5_readNumber 17 = .ok (.iload 4, 2) := by decide +kernel
theorem dX5_readNumber_19 : decode cX5_readNumber 19 = .ok (.sipush 240, 3) := by decide +kernel
theorem dX5_readNumber_22 : decode cX5_readNumber 22 = .ok (.if_icmp .ge 70, 3) := by decide +kernel
theorem dX5_readNumber_25 : decode cX5_readNumber 25 = .ok (.aload_n 0, 1) := by decide +kernel
theorem dX5_readNumber_26 : decode cX5_readNumber 26 = .ok (.aload_n 0, 1) := by decide +kernel
theorem dX5_readNumber_27 : decode cX5_readNumber 27 = .ok (.getfield 12, 3) := by decide +kernel
theorem dX5_readNumber_30 : decode cX5_readNumber 30 = .ok (.aload_n 0, 1) := by decide +kernel
theorem dX5_readNumber_31 : decode cX5_readNumber 31 = .ok (.getfield 28, 3) := by decide +kernel
theorem dX5_readNumber_34 : decode cX5_readNumber 34 = .ok (.invokevirtual 51, 3) := by decide +kernel
theorem dX5_readNumber_37 : decode cX5_readNumber 37 = .ok (.invokevirtual 130, 3) := by decide +kernel
theorem dX5_readNumber_40 : decode cX5_readNumber 40 = .ok (.ifCond .eq 52, 3) := by decide +kernel
theorem dX5_readNumber_43 : decode cX5_readNumber 43 = .ok (.aload_n 0, 1) := by decide +kernel
theorem dX5_readNumber_44 : decode cX5_readNumber 44 = .ok (.getfield 28, 3) := by decide +kernel
theorem dX5_readNumber_47 : decode cX5_readNumber 47 = .ok (.aload_n 0, 1) := by decide +kernel
theorem dX5_readNumber_48 : decode cX5_readNumber 48 = .ok (.getfield 105, 3) := by decide +kernel
theorem dX5_readNumber_51 : decode cX5_readNumber 51 = .ok (.isub, 1) := by decide +kernel
theorem dX5_readNumber_52 : decode cX5_readNumber 52 = .ok (.iconst 4, 1) := by decide +kernel
theorem dX5_readNumber_53 : decode cX5_readNumber 53 = .ok (.if_icmp .ge 23, 3) := by decide +kernel
theorem dX5_readNumber_56 : decode cX5_readNumber 56 = .ok (.iload_n 3, 1) := by decide +kernel
theorem dX5_readNumber_57 : decode cX5_readNumber 57 = .ok (.bipush 10, 2) := by decide +kernel
theorem dX5_readNumber_59 : decode cX5_readNumber 59 = .ok (.imul, 1) := by decide +kernel
theorem dX5_readNumber_60 : decode cX5_readNumber 60 = .ok (.aload_n 0, 1) := by decide +kernel
theorem dX5_readNumber_61 : decode cX5_readNumber 61 = .ok (.getfield 12, 3) := by decide +kernel
theorem dX5_readNumber_64 : decode cX5_readNumber 64 = .ok (.aload_n 0, 1) := by decide +kernel
theorem dX5_readNumber_65 : decode cX5_readNumber 65 = .ok (.getfield 28, 3) := by decide +kernel
theorem dX5_readNumber_68 : decode cX5_readNumber 68 = .ok (.invokevirtual 51, 3) := by decide +kernel
theorem dX5_readNumber_71 : decode cX5_readNumber 71 = .ok (.bipush 48, 2) := by decide +kernel
theorem dX5_readNumber_73 : decode cX5_readNumber 73 = .ok (.isub, 1) := by decide +kernel
theorem dX5_readNumber_74 : decode cX5_readNumber 74 = .ok (.iadd, 1) := by decide +kernel
theorem dX5_readNumber_75 : decode cX5_readNumber 75 = .ok (.istore_n 3, 1) := by decide +kernel
theorem dX5_readNumber_76 : decode cX5_readNumber 76 = .ok (.aload_n 0, 1) := by decide +kernel
theorem dX5_readNumber_77 : decode cX5_readNumber 77 = .ok (.dup, 1) := by decide +kernel
theorem dX5_readNumber_78 : decode cX5_readNumber 78 = .ok (.getfield 28, 3) := by decide +kernel
theorem dX5_readNumber_81 : decode cX5_readNumber 81 = .ok (.iconst 1, 1) := by decide +kernel
theorem dX5_readNumber_82 : decode cX5_readNumber 82 = .ok (.iadd, 1) := by decide +kernel
theorem dX5_readNumber_83 : decode cX5_readNumber 83 = .ok (.putfield 28, 3) := by decide +kernel
theorem dX5_readNumber_86 : decode cX5_readNumber 86 = .ok (.iinc 4 1, 3) := by decide +kernel
theorem dX5_readNumber_89 : decode cX5_readNumber 89 = .ok (.goto (-72), 3) := by decide +kernel
theorem dX5_readNumber_92 : decode cX5_readNumber 92 = .ok (.aload_n 0, 1) := by decide +kernel
theorem dX5_readNumber_93 : decode cX5_readNumber 93 = .ok (.getfield 28, 3) := by decide +kernel
theorem dX5_readNumber_96 : decode cX5_readNumber 96 = .ok (.aload_n 0, 1) := by decide +kernel
theorem dX5_readNumber_97 : decode cX5_readNumber 97 = .ok (.getfield 105, 3) := by decide +kernel
theorem dX5_readNumber_100 : decode cX5_readNumber 100 = .ok (.if_icmp .ne 15, 3) := by decide +kernel
theorem dX5_readNumber_103 : decode cX5_readNumber 103 = .ok (.aload_n 0, 1) := by decide +kernel
theorem dX5_readNumber_104 : decode cX5_readNumber 104 = .ok (.iconst 1, 1) := by decide +kernel
theorem dX5_readNumber_105 : decode cX5_readNumber 105 = .ok (.aload_n 0, 1) := by decide +kernel
theorem dX5_readNumber_106 : decode cX5_readNumber 106 = .ok (.getfield 28, 3) := by decide +kernel
theorem dX5_readNumber_109 : decode cX5_readNumber 109 = .ok (.invokevirtual 59, 3) := by decide +kernel
theorem dX5_readNumber_112 : decode cX5_readNumber 112 = .ok (.goto 35, 3) := by decide +kernel
theorem dX5_readNumber_115 : decode cX5_readNumber 115 = .ok (.aload_n 0, 1) := by decide +kernel
theorem dX5_readNumber_116 : decode cX5_readNumber 116 = .ok (.getfield 28, 3) := by decide +kernel
theorem dX5_readNumber_119 : decode cX5_readNumber 119 = .ok (.aload_n 0, 1) := by decide +kernel
theorem dX5_readNumber_120 : decode cX5_readNumber 120 = .ok (.getfield 105, 3) := by decide +kernel
theorem dX5_readNumber_123 : decode cX5_readNumber 123 = .ok (.isub, 1) := by decide +kernel
theorem dX5_readNumber_124 : decode cX5_readNumber 124 = .ok (.iconst 4, 1) := by decide +kernel
theorem dX5_readNumber_125 : decode cX5_readNumber 125 = .ok (.if_icmp .gt 13, 3) := by decide +kernel
theorem dX5_readNumber_128 : decode cX5_readNumber 128 = .ok (.iload_n 3, 1) := by decide +kernel
theorem dX5_readNumber_129 : decode cX5_readNumber 129 = .ok (.iload_n 1, 1) := by decide +kernel
theorem dX5_readNumber_130 : decode cX5_readNumber 130 = .ok (.if_icmp .lt 8, 3) := by decide +kernel
theorem dX5_readNumber_133 : decode cX5_readNumber 133 = .ok (.iload_n 3, 1) := by decide +kernel
theorem dX5_readNumber_134 : decode cX5_readNumber 134 = .ok (.iload_n 2, 1) := by decide +kernel
theorem dX5_readNumber_135 : decode cX5_readNumber 135 = .ok (.if_icmp .le 12, 3) := by decide +kernel
theorem dX5_readNumber_138 : decode cX5_readNumber 138 = .ok (.aload_n 0, 1) := by decide +kernel
theorem dX5_readNumber_139 : decode cX5_readNumber 139 = .ok (.iconst 2, 1) := by decide +kernel
theorem dX5_readNumber_140 : decode cX5_readNumber 140 = .ok (.aload_n 0, 1) := by decide +kernel
theorem dX5_readNumber_141 : decode cX5_readNumber 141 = .ok (.getfield 105, 3) := by decide +kernel
theorem dX5_readNumber_144 : decode cX5_readNumber 144 = .ok (.invokevirtual 59, 3) := by decide +kernel
theorem dX5_readNumber_147 : decode cX5_readNumber 147 = .ok (.iload_n 3, 1) := by decide +kernel
theorem dX5_readNumber_148 : decode cX5_readNumber 148 = .ok (.ireturn, 1) := by decide +kernel
def Rd_readNumber_L17_b  (rec : Int32 → Int32 → gm_M → Option (Int32 × gm_M)) (y3 : Int32) (y4 : Int32) (S5 : gm_M) : Option (Int32 × gm_M) :=
  if (240 : Int32) ≤ y4 then (
    some (y3, S5)
  ) else (
    gm_bp1 (Tx_letterAt (S5.1 1 2) S5) fun v9 =>
    gm_bp1 (Rd_isFigure v9) fun v10 =>
    if v10 = 0 then (
      some (y3, S5)
    ) else (
      gm_bp1 (show Option (Int32) from
        if (4 : Int32) ≤ (S5.1 1 2) - (S5.1 1 3) then (
          some (y3)
        ) else (
          gm_bp1 (Tx_letterAt (S5.1 1 2) S5) fun v16 =>
          gm_lt (α := Int32) ((y3 * 10) + (v16 - 48)) fun x17 =>
          some (x17)
        )
      ) fun x12 =>
      gm_lt (α := gm_M) (gm_ui S5 1 2 ((S5.1 1 2) + 1)) fun S13 =>
      gm_lt (α := Int32) (y4 + 1) fun x14 =>
      rec x12 x14 S13
    )
  )
def Rd_readNumber_L17  : Nat → Int32 → Int32 → gm_M → Option (Int32 × gm_M)
  | 0 => fun _ _ _ => none
  | n + 1 => Rd_readNumber_L17_b  (Rd_readNumber_L17  n)
def Rd_readNumber (fl : Nat) (a0 : Int32) (a1 : Int32) (S : gm_M) : Option (Int32 × gm_M) :=
  gm_bp1 (Rd_skipBlanks fl S) fun S1 =>
  gm_lt (α := gm_M) (gm_ui S1 1 3 (S1.1 1 2)) fun S2 =>
  gm_bp2 (Rd_readNumber_L17  fl 0 0 S2) fun z6 S7 =>
  if S7.1 1 2 = S7.1 1 3 then (
    gm_bp1 (Rd_setFault 1 (S7.1 1 2) S7) fun S25 =>
    some (z6, S25)
  ) else (
    if (4 : Int32) < (S7.1 1 2) - (S7.1 1 3) then (
      gm_bp1 (Rd_setFault 2 (S7.1 1 3) S7) fun S20 =>
      some (z6, S20)
    ) else (
      if z6 < a0 then (
        gm_bp1 (Rd_setFault 2 (S7.1 1 3) S7) fun S22 =>
        some (z6, S22)
      ) else (
        if z6 ≤ a1 then (
          some (z6, S7)
        ) else (
          gm_bp1 (Rd_setFault 2 (S7.1 1 3) S7) fun S24 =>
          some (z6, S24)
        )
      )
    )
  )
set_option maxHeartbeats 4000000 in
set_option maxRecDepth 100000 in
theorem Rd_readNumber_c (l : Launch) (cf : gm_C) (ad : Nat → Nat) {fl : Nat}   {a0 : Int32} {a1 : Int32} {S : gm_M} {r : Int32} {S'  : gm_M} (hf : Rd_readNumber fl a0 a1 S = some (r, S')) : gm_Met l yX5_readNumber cX5_readNumber 5 (some .int) 2 42 cf ad gm_sC 106 [.ref (ad 1), .int a0, .int a1] S (some (.int r)) S' := by
  refine gm_met (by decide +kernel) (Nat.le_of_ble_eq_true rfl) ?_
  intro p e s m args below meth c C hr
  have C : gm_F p s m args meth c cf ad 106 cX5_readNumber 5 RX5 := C
  refine gm_lve (lv' := [(0, .ref (ad 1)), (1, .int a0), (2, .int a1)]) rfl ?_
  unfold Rd_readNumber at hf
  refine gm_aload_n C dX5_readNumber_0 rfl 0 rfl ?_
  obtain ⟨S1, eS1, hf⟩ := gm_bp1_s hf
  refine gm_callVv (As := []) C (Rd_skipBlanks_c l cf ad eS1) (Nat.le_of_ble_eq_true rfl) rfl kc_5 wy_Rd_skipBlanks rfl wl_378 rfl ⟨(Nat.le_of_ble_eq_true rfl), (Nat.le_of_ble_eq_true rfl)⟩ rfl (Nat.le_of_ble_eq_true rfl) dX5_readNumber_1 ?_
  refine gm_aload_n C dX5_readNumber_4 rfl 0 rfl ?_
  refine gm_aload_n C dX5_readNumber_5 rfl 0 rfl ?_
  refine gm_geti C (Nat.le_of_ble_eq_true rfl) rfl kc_5 (k := 2) rfl (by decide) rfl wl_153 dX5_readNumber_6 ?_
  refine gm_puti C (Nat.le_of_ble_eq_true rfl) rfl kc_5 (k := 3) rfl (by decide) rfl rfl (kc_5.2.2.2.1 3 (by decide)) rfl rfl wl_154 dX5_readNumber_9 ?_
  obtain ⟨S2, eS2, hf⟩ := gm_lt_s hf
  refine gm_topm eS2 ?_
  refine gm_iconst (v := 0) C dX5_readNumber_12 (by decide) ?_
  refine gm_istore_n (lv' := [(3, .int 0), (0, .ref (ad 1)), (1, .int a0), (2, .int a1)]) C dX5_readNumber_13 rfl (by decide) rfl ?_
  refine gm_iconst (v := 0) C dX5_readNumber_14 (by decide) ?_
  refine gm_istore (lv' := [(4, .int 0), (3, .int 0), (0, .ref (ad 1)), (1, .int a0), (2, .int a1)]) C dX5_readNumber_15 (by decide) rfl ?_
  have L17 : ∀ (n : Nat) (y3 : Int32) (y4 : Int32) (S5 : gm_M) (z6 : Int32) (S7 : gm_M), Rd_readNumber_L17  n y3 y4 S5 = some (z6, S7) → gm_G p l e { frames := 2, cells := 0, slots := 0, locals := 42 } s m args below meth c (MQ below (gm_Q cf ad gm_sC 106 (some (.int r)) S') args s 0 0 (gm_A ad 106)) cf ad gm_sC 106 5 S7 92 [(0, .ref (ad 1)), (1, .int a0), (2, .int a1), (3, .int z6)] [] → gm_G p l e { frames := 2, cells := 0, slots := 0, locals := 42 } s m args below meth c (MQ below (gm_Q cf ad gm_sC 106 (some (.int r)) S') args s 0 0 (gm_A ad 106)) cf ad gm_sC 106 5 S5 17 [(0, .ref (ad 1)), (1, .int a0), (2, .int a1), (3, .int y3), (4, .int y4)] [] := by
    intro n
    induction n with
    | zero => intro y3 y4 S5 z6 S7 hf K; cases (show (none : Option _) = some _ from hf)
    | succ n ih =>
      intro y3 y4 S5 z6 S7 hf K
      have hf : Rd_readNumber_L17_b  (Rd_readNumber_L17  n) y3 y4 S5 = some (z6, S7) := hf
      unfold Rd_readNumber_L17_b at hf
      refine gm_iload C dX5_readNumber_17 4 rfl ?_
      refine gm_sipush (v := 240) C dX5_readNumber_19 (by decide) ?_
      refine gm_icmp_ge C 92 dX5_readNumber_22 (by decide) (fun c8 => ?_) (fun c8 => ?_)
      · have hf := gm_it _ c8 hf
        cases hf
        exact gm_lvp [0, 1, 2, 3] rfl K
      · have hf := gm_if _ c8 hf
        refine gm_aload_n C dX5_readNumber_25 rfl 0 rfl ?_
        refine gm_aload_n C dX5_readNumber_26 rfl 0 rfl ?_
        refine gm_getr (j := 1) (u := 2) C (Nat.le_of_ble_eq_true rfl) rfl kc_5 (k := 0) rfl (by decide) rfl rfl wl_149 dX5_readNumber_27 ?_
        refine gm_aload_n C dX5_readNumber_30 rfl 0 rfl ?_
        refine gm_geti C (Nat.le_of_ble_eq_true rfl) rfl kc_5 (k := 2) rfl (by decide) rfl wl_153 dX5_readNumber_31 ?_
        obtain ⟨v9, ev9, hf⟩ := gm_bp1_s hf
        refine gm_callVi (As := [.int (S5.1 1 2)]) C (Tx_letterAt_c l cf ad ev9) (Nat.le_of_ble_eq_true rfl) rfl kc_7 wy_Tx_letterAt rfl wl_382 rfl ⟨(Nat.le_of_ble_eq_true rfl), (Nat.le_of_ble_eq_true rfl)⟩ rfl (Nat.le_of_ble_eq_true rfl) dX5_readNumber_34 ?_
        obtain ⟨v10, ev10, hf⟩ := gm_bp1_s hf
        refine gm_callVi (As := [.int v9]) C (Rd_isFigure_c l cf ad ev10 (S := S5)) (Nat.le_of_ble_eq_true rfl) rfl kc_5 wy_Rd_isFigure rfl wl_410 rfl ⟨(Nat.le_of_ble_eq_true rfl), (Nat.le_of_ble_eq_true rfl)⟩ rfl (Nat.le_of_ble_eq_true rfl) dX5_readNumber_37 ?_
        refine gm_if_eq C 92 dX5_readNumber_40 (by decide) (fun c11 => ?_) (fun c11 => ?_)
        · have hf := gm_it _ c11 hf
          cases hf
          exact gm_lvp [0, 1, 2, 3] rfl K
        · have hf := gm_if _ c11 hf
          refine gm_aload_n C dX5_readNumber_43 rfl 0 rfl ?_
          refine gm_geti C (Nat.le_of_ble_eq_true rfl) rfl kc_5 (k := 2) rfl (by decide) rfl wl_153 dX5_readNumber_44 ?_
          refine gm_aload_n C dX5_readNumber_47 rfl 0 rfl ?_
          refine gm_geti C (Nat.le_of_ble_eq_true rfl) rfl kc_5 (k := 3) rfl (by decide) rfl wl_154 dX5_readNumber_48 ?_
          refine gm_isub C dX5_readNumber_51 ?_
          refine gm_iconst (v := 4) C dX5_readNumber_52 (by decide) ?_
          obtain ⟨x12, hx, hf⟩ := gm_bp1_s hf
          have key : gm_G p l e { frames := 2, cells := 0, slots := 0, locals := 42 } s m args below meth c (MQ below (gm_Q cf ad gm_sC 106 (some (.int r)) S') args s 0 0 (gm_A ad 106)) cf ad gm_sC 106 5 S5 76 [(0, .ref (ad 1)), (1, .int a0), (2, .int a1), (3, .int x12), (4, .int y4)] [] := by
            refine gm_aload_n C dX5_readNumber_76 rfl 0 rfl ?_
            refine gm_dup C dX5_readNumber_77 rfl ?_
            refine gm_geti C (Nat.le_of_ble_eq_true rfl) rfl kc_5 (k := 2) rfl (by decide) rfl wl_153 dX5_readNumber_78 ?_
            refine gm_iconst (v := 1) C dX5_readNumber_81 (by decide) ?_
            refine gm_iadd C dX5_readNumber_82 ?_
            refine gm_puti C (Nat.le_of_ble_eq_true rfl) rfl kc_5 (k := 2) rfl (by decide) rfl rfl (kc_5.2.2.2.1 2 (by decide)) rfl rfl wl_153 dX5_readNumber_83 ?_
            obtain ⟨S13, eS13, hf⟩ := gm_lt_s hf
            refine gm_topm eS13 ?_
            obtain ⟨x14, ex14, hf⟩ := gm_lt_s hf
            refine gm_iinc (v := x14) (lv' := [(4, .int x14), (0, .ref (ad 1)), (1, .int a0), (2, .int a1), (3, .int x12)]) (j := 4) C dX5_readNumber_86 rfl (by rw [ex14]; rfl) (by decide) rfl ?_
            refine gm_goto C 17 dX5_readNumber_89 (by decide) ?_
            exact gm_lvp [1, 2, 3, 4, 0] rfl (ih _ _ _ _ _ hf K)
          have hf := hx
          refine gm_icmp_ge C 76 dX5_readNumber_53 (by decide) (fun c15 => ?_) (fun c15 => ?_)
          · have hf := gm_it _ c15 hf
            cases hf
            exact gm_lvp [0, 1, 2, 3, 4] rfl key
          · have hf := gm_if _ c15 hf
            refine gm_iload_n C dX5_readNumber_56 rfl 3 rfl ?_
            refine gm_bipush (v := 10) C dX5_readNumber_57 (by decide) ?_
            refine gm_imul C dX5_readNumber_59 ?_
            refine gm_aload_n C dX5_readNumber_60 rfl 0 rfl ?_
            refine gm_getr (j := 1) (u := 2) C (Nat.le_of_ble_eq_true rfl) rfl kc_5 (k := 0) rfl (by decide) rfl rfl wl_149 dX5_readNumber_61 ?_
            refine gm_aload_n C dX5_readNumber_64 rfl 0 rfl ?_
            refine gm_geti C (Nat.le_of_ble_eq_true rfl) rfl kc_5 (k := 2) rfl (by decide) rfl wl_153 dX5_readNumber_65 ?_
            obtain ⟨v16, ev16, hf⟩ := gm_bp1_s hf
            refine gm_callVi (As := [.int (S5.1 1 2)]) C (Tx_letterAt_c l cf ad ev16) (Nat.le_of_ble_eq_true rfl) rfl kc_7 wy_Tx_letterAt rfl wl_382 rfl ⟨(Nat.le_of_ble_eq_true rfl), (Nat.le_of_ble_eq_true rfl)⟩ rfl (Nat.le_of_ble_eq_true rfl) dX5_readNumber_68 ?_
            refine gm_bipush (v := 48) C dX5_readNumber_71 (by decide) ?_
            refine gm_isub C dX5_readNumber_73 ?_
            refine gm_iadd C dX5_readNumber_74 ?_
            obtain ⟨x17, ex17, hf⟩ := gm_lt_s hf
            refine gm_topi ex17 ?_
            refine gm_istore_n (lv' := [(3, .int x17), (0, .ref (ad 1)), (1, .int a0), (2, .int a1), (4, .int y4)]) C dX5_readNumber_75 rfl (by decide) rfl ?_
            cases hf
            exact gm_lvp [1, 2, 3, 0, 4] rfl key
  obtain ⟨z6, S7, hx, hf⟩ := gm_bp2_s hf
  refine gm_lvp [2, 3, 4, 1, 0] rfl (L17 fl _ _ _ _ _ hx ?_)
  refine gm_aload_n C dX5_readNumber_92 rfl 0 rfl ?_
  refine gm_geti C (Nat.le_of_ble_eq_true rfl) rfl kc_5 (k := 2) rfl (by decide) rfl wl_153 dX5_readNumber_93 ?_
  refine gm_aload_n C dX5_readNumber_96 rfl 0 rfl ?_
  refine gm_geti C (Nat.le_of_ble_eq_true rfl) rfl kc_5 (k := 3) rfl (by decide) rfl wl_154 dX5_readNumber_97 ?_
  refine gm_icmp_ne C 115 dX5_readNumber_100 (by decide) (fun c18 => ?_) (fun c18 => ?_)
  · have hf := gm_if _ c18 hf
    refine gm_aload_n C dX5_readNumber_115 rfl 0 rfl ?_
    refine gm_geti C (Nat.le_of_ble_eq_true rfl) rfl kc_5 (k := 2) rfl (by decide) rfl wl_153 dX5_readNumber_116 ?_
    refine gm_aload_n C dX5_readNumber_119 rfl 0 rfl ?_
    refine gm_geti C (Nat.le_of_ble_eq_true rfl) rfl kc_5 (k := 3) rfl (by decide) rfl wl_154 dX5_readNumber_120 ?_
    refine gm_isub C dX5_readNumber_123 ?_
    refine gm_iconst (v := 4) C dX5_readNumber_124 (by decide) ?_
    refine gm_icmp_gt C 138 dX5_readNumber_125 (by decide) (fun c19 => ?_) (fun c19 => ?_)
    · have hf := gm_it _ c19 hf
      refine gm_aload_n C dX5_readNumber_138 rfl 0 rfl ?_
      refine gm_iconst (v := 2) C dX5_readNumber_139 (by decide) ?_
      refine gm_aload_n C dX5_readNumber_140 rfl 0 rfl ?_
      refine gm_geti C (Nat.le_of_ble_eq_true rfl) rfl kc_5 (k := 3) rfl (by decide) rfl wl_154 dX5_readNumber_141 ?_
      obtain ⟨S20, eS20, hf⟩ := gm_bp1_s hf
      refine gm_callVv (As := [.int 2, .int (S7.1 1 3)]) C (Rd_setFault_c l cf ad eS20) (Nat.le_of_ble_eq_true rfl) rfl kc_5 wy_Rd_setFault rfl wl_394 rfl ⟨(Nat.le_of_ble_eq_true rfl), (Nat.le_of_ble_eq_true rfl)⟩ rfl (Nat.le_of_ble_eq_true rfl) dX5_readNumber_144 ?_
      refine gm_iload_n C dX5_readNumber_147 rfl 3 rfl ?_
      exact gm_iret C hr rfl dX5_readNumber_148 hf
    · have hf := gm_if _ c19 hf
      refine gm_iload_n C dX5_readNumber_128 rfl 3 rfl ?_
      refine gm_iload_n C dX5_readNumber_129 rfl 1 rfl ?_
      refine gm_icmp_lt C 138 dX5_readNumber_130 (by decide) (fun c21 => ?_) (fun c21 => ?_)
      · have hf := gm_it _ c21 hf
        refine gm_aload_n C dX5_readNumber_138 rfl 0 rfl ?_
        refine gm_iconst (v := 2) C dX5_readNumber_139 (by decide) ?_
        refine gm_aload_n C dX5_readNumber_140 rfl 0 rfl ?_
        refine gm_geti C (Nat.le_of_ble_eq_true rfl) rfl kc_5 (k := 3) rfl (by decide) rfl wl_154 dX5_readNumber_141 ?_
        obtain ⟨S22, eS22, hf⟩ := gm_bp1_s hf
        refine gm_callVv (As := [.int 2, .int (S7.1 1 3)]) C (Rd_setFault_c l cf ad eS22) (Nat.le_of_ble_eq_true rfl) rfl kc_5 wy_Rd_setFault rfl wl_394 rfl ⟨(Nat.le_of_ble_eq_true rfl), (Nat.le_of_ble_eq_true rfl)⟩ rfl (Nat.le_of_ble_eq_true rfl) dX5_readNumber_144 ?_
        refine gm_iload_n C dX5_readNumber_147 rfl 3 rfl ?_
        exact gm_iret C hr rfl dX5_readNumber_148 hf
      · have hf := gm_if _ c21 hf
        refine gm_iload_n C dX5_readNumber_133 rfl 3 rfl ?_
        refine gm_iload_n C dX5_readNumber_134 rfl 2 rfl ?_
        refine gm_icmp_le C 147 dX5_readNumber_135 (by decide) (fun c23 => ?_) (fun c23 => ?_)
        · have hf := gm_it _ c23 hf
          refine gm_iload_n C dX5_readNumber_147 rfl 3 rfl ?_
          exact gm_iret C hr rfl dX5_readNumber_148 hf
        · have hf := gm_if _ c23 hf
          refine gm_aload_n C dX5_readNumber_138 rfl 0 rfl ?_
          refine gm_iconst (v := 2) C dX5_readNumber_139 (by decide) ?_
          refine gm_aload_n C dX5_readNumber_140 rfl 0 rfl ?_
          refine gm_geti C (Nat.le_of_ble_eq_true rfl) rfl kc_5 (k := 3) rfl (by decide) rfl wl_154 dX5_readNumber_141 ?_
          obtain ⟨S24, eS24, hf⟩ := gm_bp1_s hf
          refine gm_callVv (As := [.int 2, .int (S7.1 1 3)]) C (Rd_setFault_c l cf ad eS24) (Nat.le_of_ble_eq_true rfl) rfl kc_5 wy_Rd_setFault rfl wl_394 rfl ⟨(Nat.le_of_ble_eq_true rfl), (Nat.le_of_ble_eq_true rfl)⟩ rfl (Nat.le_of_ble_eq_true rfl) dX5_readNumber_144 ?_
          refine gm_iload_n C dX5_readNumber_147 rfl 3 rfl ?_
          exact gm_iret C hr rfl dX5_readNumber_148 hf
  · have hf := gm_it _ c18 hf
    refine gm_aload_n C dX5_readNumber_103 rfl 0 rfl ?_
    refine gm_iconst (v := 1) C dX5_readNumber_104 (by decide) ?_
    refine gm_aload_n C dX5_readNumber_105 rfl 0 rfl ?_
    refine gm_geti C (Nat.le_of_ble_eq_true rfl) rfl kc_5 (k := 2) rfl (by decide) rfl wl_153 dX5_readNumber_106 ?_
    obtain ⟨S25, eS25, hf⟩ := gm_bp1_s hf
    refine gm_callVv (As := [.int 1, .int (S7.1 1 2)]) C (Rd_setFault_c l cf ad eS25) (Nat.le_of_ble_eq_true rfl) rfl kc_5 wy_Rd_setFault rfl wl_394 rfl ⟨(Nat.le_of_ble_eq_true rfl), (Nat.le_of_ble_eq_true rfl)⟩ rfl (Nat.le_of_ble_eq_true rfl) dX5_readNumber_109 ?_
    refine gm_goto C 147 dX5_readNumber_112 (by decide) ?_
    refine gm_iload_n C dX5_readNumber_147 rfl 3 rfl ?_
    exact gm_iret C hr rfl dX5_readNumber_148 hf
theorem dX5_readFigures_0 : decode cX5_readFigures 0 = .ok (.aload_n 0, 1) := by decide +kernel
theorem dX5_readFigures_1 : decode cX5_readFigures 1 = .ok (.iconst 2, 1) := by decide +kernel
theorem dX5_readFigures_2 : decode cX5_readFigures 2 = .ok (.iconst 4, 1) := by decide +kernel
theorem dX5_readFigures_3 : decode cX5_readFigures 3 = .ok (.invokevirtual 96, 3) := by decide +kernel
theorem dX5_readFigures_6 : decode cX5_readFigures 6 = .ok (.istore_n 1, 1) := by decide +kernel
theorem dX5_readFigures_7 : decode cX5_readFigures 7 = .ok (.aload_n 0, 1) := by decide +kernel
theorem dX5_readFigures_8 : decode cX5_readFigures 8 = .ok (.getfield 32, 3) := by decide +kernel
theorem dX5_readFigures_11 : decode cX5_readFigures 11 = .ok (.ifCond .ne 11, 3) := by decide +kernel
theorem dX5_readFigures_14 : decode cX5_readFigures 14 = .ok (.aload_n 0, 1) := by decide +kernel
theorem dX5_readFigures_15 : decode cX5_readFigures 15 = .ok (.getfield 21, 3) := by decide +kernel
theorem dX5_readFigures_18 : decode cX5_readFigures 18 = .ok (.iload_n 1, 1) := by decide +kernel
theorem dX5_readFigures_19 : decode cX5_readFigures 19 = .ok (.putfield 84, 3) := by decide +kernel
theorem dX5_readFigures_22 : decode cX5_readFigures 22 = .ok (.return_, 1) := by decide +kernel
def Rd_readFigures (fl : Nat) (S : gm_M) : Option gm_M :=
  gm_bp2 (Rd_readNumber fl 2 4 S) fun v1 S2 =>
  if S2.1 1 4 = 0 then (
    gm_lt (α := gm_M) (gm_ui S2 4 3 v1) fun S4 =>
    some S4
  ) else (
    some S2
  )
set_option maxHeartbeats 4000000 in
set_option maxRecDepth 100000 in
theorem Rd_readFigures_c (l : Launch) (cf : gm_C) (ad : Nat → Nat) {fl : Nat}    {S : gm_M}  {S'  : gm_M} (hf : Rd_readFigures fl S = some S') : gm_Met l yX5_readFigures cX5_readFigures 2 none 3 66 cf ad gm_sC 106 [.ref (ad 1)] S none S' := by
  refine gm_met (by decide +kernel) (Nat.le_of_ble_eq_true rfl) ?_
  intro p e s m args below meth c C hr
  have C : gm_F p s m args meth c cf ad 106 cX5_readFigures 2 RX5 := C
  refine gm_lve (lv' := [(0, .ref (ad 1))]) rfl ?_
  unfold Rd_readFigures at hf
  refine gm_aload_n C dX5_readFigures_0 rfl 0 rfl ?_
  refine gm_iconst (v := 2) C dX5_readFigures_1 (by decide) ?_
  refine gm_iconst (v := 4) C dX5_readFigures_2 (by decide) ?_
  obtain ⟨v1, S2, eS2, hf⟩ := gm_bp2_s hf
  refine gm_callVi (As := [.int 2, .int 4]) C (Rd_readNumber_c l cf ad eS2) (Nat.le_of_ble_eq_true rfl) rfl kc_5 wy_Rd_readNumber rfl wl_406 rfl ⟨(Nat.le_of_ble_eq_true rfl), (Nat.le_of_ble_eq_true rfl)⟩ rfl (Nat.le_of_ble_eq_true rfl) dX5_readFigures_3 ?_
  refine gm_istore_n (lv' := [(1, .int v1), (0, .ref (ad 1))]) C dX5_readFigures_6 rfl (by decide) rfl ?_
  refine gm_aload_n C dX5_readFigures_7 rfl 1 rfl ?_
  refine gm_geti C (Nat.le_of_ble_eq_true rfl) rfl kc_5 (k := 4) rfl (by decide) rfl wl_155 dX5_readFigures_8 ?_
  refine gm_if_ne C 22 dX5_readFigures_11 (by decide) (fun c3 => ?_) (fun c3 => ?_)
  · have hf := gm_if _ c3 hf
    exact gm_vret C hr dX5_readFigures_22 hf
  · have hf := gm_it _ c3 hf
    refine gm_aload_n C dX5_readFigures_14 rfl 1 rfl ?_
    refine gm_getr (j := 3) (u := 4) C (Nat.le_of_ble_eq_true rfl) rfl kc_5 (k := 1) rfl (by decide) rfl rfl wl_151 dX5_readFigures_15 ?_
    refine gm_iload_n C dX5_readFigures_18 rfl 0 rfl ?_
    refine gm_puti C (Nat.le_of_ble_eq_true rfl) rfl kc_9 (k := 3) rfl (by decide) rfl rfl (kc_9.2.2.2.1 3 (by decide)) rfl rfl wl_112 dX5_readFigures_19 ?_
    obtain ⟨S4, eS4, hf⟩ := gm_lt_s hf
    refine gm_topm eS4 ?_
    exact gm_vret C hr dX5_readFigures_22 hf
theorem dX5_readMode_0 : decode cX5_readMode 0 = .ok (.aload_n 0, 1) := by decide +kernel
theorem dX5_readMode_1 : decode cX5_readMode 1 = .ok (.getfield 21, 3) := by decide +kernel
theorem dX5_readMode_4 : decode cX5_readMode 4 = .ok (.aload_n 0, 1) := by decide +kernel
theorem dX5_readMode_5 : decode cX5_readMode 5 = .ok (.iconst 0, 1) := by decide +kernel
theorem dX5_readMode_6 : decode cX5_readMode 6 = .ok (.iconst 1, 1) := by decide +kernel
theorem dX5_readMode_7 : decode cX5_readMode 7 = .ok (.invokevirtual 96, 3) := by decide +kernel
theorem dX5_readMode_10 : decode cX5_readMode 10 = .ok (.putfield 100, 3) := by decide +kernel
theorem dX5_readMode_13 : decode cX5_readMode 13 = .ok (.aload_n 0, 1) := by decide +kernel
theorem dX5_readMode_14 : decode cX5_readMode 14 = .ok (.iconst 1, 1) := by decide +kernel
theorem dX5_readMode_15 : decode cX5_readMode 15 = .ok (.putfield 38, 3) := by decide +kernel
theorem dX5_readMode_18 : decode cX5_readMode 18 = .ok (.return_, 1) := by decide +kernel
def Rd_readMode (fl : Nat) (S : gm_M) : Option gm_M :=
  gm_bp2 (Rd_readNumber fl 0 1 S) fun v1 S2 =>
  gm_lt (α := gm_M) (gm_ui S2 4 4 v1) fun S3 =>
  gm_lt (α := gm_M) (gm_ui S3 1 6 1) fun S4 =>
  some S4
set_option maxHeartbeats 4000000 in
set_option maxRecDepth 100000 in
theorem Rd_readMode_c (l : Launch) (cf : gm_C) (ad : Nat → Nat) {fl : Nat}    {S : gm_M}  {S'  : gm_M} (hf : Rd_readMode fl S = some S') : gm_Met l yX5_readMode cX5_readMode 1 none 3 66 cf ad gm_sC 106 [.ref (ad 1)] S none S' := by
  refine gm_met (by decide +kernel) (Nat.le_of_ble_eq_true rfl) ?_
  intro p e s m args below meth c C hr
  have C : gm_F p s m args meth c cf ad 106 cX5_readMode 1 RX5 := C
  refine gm_lve (lv' := [(0, .ref (ad 1))]) rfl ?_
  unfold Rd_readMode at hf
  refine gm_aload_n C dX5_readMode_0 rfl 0 rfl ?_
  refine gm_getr (j := 3) (u := 4) C (Nat.le_of_ble_eq_true rfl) rfl kc_5 (k := 1) rfl (by decide) rfl rfl wl_151 dX5_readMode_1 ?_
  refine gm_aload_n C dX5_readMode_4 rfl 0 rfl ?_
  refine gm_iconst (v := 0) C dX5_readMode_5 (by decide) ?_
  refine gm_iconst (v := 1) C dX5_readMode_6 (by decide) ?_
  obtain ⟨v1, S2, eS2, hf⟩ := gm_bp2_s hf
  refine gm_callVi (As := [.int 0, .int 1]) C (Rd_readNumber_c l cf ad eS2) (Nat.le_of_ble_eq_true rfl) rfl kc_5 wy_Rd_readNumber rfl wl_406 rfl ⟨(Nat.le_of_ble_eq_true rfl), (Nat.le_of_ble_eq_true rfl)⟩ rfl (Nat.le_of_ble_eq_true rfl) dX5_readMode_7 ?_
  refine gm_puti C (Nat.le_of_ble_eq_true rfl) rfl kc_9 (k := 4) rfl (by decide) rfl rfl (kc_9.2.2.2.1 4 (by decide)) rfl rfl wl_116 dX5_readMode_10 ?_
  obtain ⟨S3, eS3, hf⟩ := gm_lt_s hf
  refine gm_topm eS3 ?_
  refine gm_aload_n C dX5_readMode_13 rfl 0 rfl ?_
  refine gm_iconst (v := 1) C dX5_readMode_14 (by decide) ?_
  refine gm_puti C (Nat.le_of_ble_eq_true rfl) rfl kc_5 (k := 6) rfl (by decide) rfl rfl (kc_5.2.2.2.1 6 (by decide)) rfl rfl wl_159 dX5_readMode_15 ?_
  obtain ⟨S4, eS4, hf⟩ := gm_lt_s hf
  refine gm_topm eS4 ?_
  exact gm_vret C hr dX5_readMode_18 hf
theorem dX6_leastA_0 : decode cX6_leastA 0 = .ok (.iload_n 0, 1) := by decide +kernel
theorem dX6_leastA_1 : decode cX6_leastA 1 = .ok (.ifCond .lt 16, 3) := by decide +kernel
theorem dX6_leastA_4 : decode cX6_leastA 4 = .ok (.iload_n 0, 1) := by decide +kernel
theorem dX6_leastA_5 : decode cX6_leastA 5 = .ok (.iconst 5, 1) := by decide +kernel
theorem dX6_leastA_6 : decode cX6_leastA 6 = .ok (.if_icmp .ge 11, 3) := by decide +kernel
theorem dX6_leastA_9 : decode cX6_leastA 9 = .ok (.getstatic 11, 3) := by decide +kernel
theorem dX6_leastA_12 : decode cX6_leastA 12 = .ok (.iload_n 0, 1) := by decide +kernel
theorem dX6_leastA_13 : decode cX6_leastA 13 = .ok (.iaload, 1) := by decide +kernel
theorem dX6_leastA_14 : decode cX6_leastA 14 = .ok (.goto 4, 3) := by decide +kernel
theorem dX6_leastA_17 : decode cX6_leastA 17 = .ok (.iconst 0, 1) := by decide +kernel
theorem dX6_leastA_18 : decode cX6_leastA 18 = .ok (.ireturn, 1) := by decide +kernel
def Ru_leastA (a0 : Int32) : Option Int32 :=
  if a0 < 0 then (
    some (0)
  ) else (
    if (5 : Int32) ≤ a0 then (
      some (0)
    ) else (
      gm_ck (a0) 5 <|
      some (gm_la a0.toNatClampNeg)
    )
  )
set_option maxHeartbeats 4000000 in
set_option maxRecDepth 100000 in
theorem Ru_leastA_c (l : Launch) (cf : gm_C) (ad : Nat → Nat)    {a0 : Int32} {S : gm_M} {r : Int32}  (hf : Ru_leastA a0 = some r) : gm_Met l yX6_leastA cX6_leastA 1 (some .int) 0 0 cf ad gm_sC 106 [.int a0] S (some (.int r)) S := by
  refine gm_met (by decide +kernel) (Nat.le_of_ble_eq_true rfl) ?_
  intro p e s m args below meth c C hr
  have C : gm_F p s m args meth c cf ad 106 cX6_leastA 1 RX6 := C
  refine gm_lve (lv' := [(0, .int a0)]) rfl ?_
  unfold Ru_leastA at hf
  refine gm_iload_n C dX6_leastA_0 rfl 0 rfl ?_
  refine gm_if_lt C 17 dX6_leastA_1 (by decide) (fun c1 => ?_) (fun c1 => ?_)
  · have hf := gm_it _ c1 hf
    refine gm_iconst (v := 0) C dX6_leastA_17 (by decide) ?_
    exact gm_iretK C hr rfl dX6_leastA_18 hf
  · have hf := gm_if _ c1 hf
    refine gm_iload_n C dX6_leastA_4 rfl 0 rfl ?_
    refine gm_iconst (v := 5) C dX6_leastA_5 (by decide) ?_
    refine gm_icmp_ge C 17 dX6_leastA_6 (by decide) (fun c2 => ?_) (fun c2 => ?_)
    · have hf := gm_it _ c2 hf
      refine gm_iconst (v := 0) C dX6_leastA_17 (by decide) ?_
      exact gm_iretK C hr rfl dX6_leastA_18 hf
    · have hf := gm_if _ c2 hf
      refine gm_least C wl_428 dX6_leastA_9 (fun q3 h4 => ?_)
      refine gm_iload_n C dX6_leastA_12 rfl 0 rfl ?_
      obtain ⟨h5, hf⟩ := gm_ck_s hf
      refine gm_tald C h4 h5 dX6_leastA_13 ?_
      refine gm_goto C 18 dX6_leastA_14 (by decide) ?_
      exact gm_iretK C hr rfl dX6_leastA_18 hf
theorem dX6_greatestA_0 : decode cX6_greatestA 0 = .ok (.iload_n 0, 1) := by decide +kernel
theorem dX6_greatestA_1 : decode cX6_greatestA 1 = .ok (.ifCond .lt 16, 3) := by decide +kernel
theorem dX6_greatestA_4 : decode cX6_greatestA 4 = .ok (.iload_n 0, 1) := by decide +kernel
theorem dX6_greatestA_5 : decode cX6_greatestA 5 = .ok (.iconst 5, 1) := by decide +kernel
theorem dX6_greatestA_6 : decode cX6_greatestA 6 = .ok (.if_icmp .ge 11, 3) := by decide +kernel
theorem dX6_greatestA_9 : decode cX6_greatestA 9 = .ok (.getstatic 15, 3) := by decide +kernel
theorem dX6_greatestA_12 : decode cX6_greatestA 12 = .ok (.iload_n 0, 1) := by decide +kernel
theorem dX6_greatestA_13 : decode cX6_greatestA 13 = .ok (.iaload, 1) := by decide +kernel
theorem dX6_greatestA_14 : decode cX6_greatestA 14 = .ok (.goto 4, 3) := by decide +kernel
theorem dX6_greatestA_17 : decode cX6_greatestA 17 = .ok (.iconst (-1), 1) := by decide +kernel
theorem dX6_greatestA_18 : decode cX6_greatestA 18 = .ok (.ireturn, 1) := by decide +kernel
def Ru_greatestA (a0 : Int32) : Option Int32 :=
  if a0 < 0 then (
    some ((-1))
  ) else (
    if (5 : Int32) ≤ a0 then (
      some ((-1))
    ) else (
      gm_ck (a0) 5 <|
      some (gm_ga a0.toNatClampNeg)
    )
  )
set_option maxHeartbeats 4000000 in
set_option maxRecDepth 100000 in
theorem Ru_greatestA_c (l : Launch) (cf : gm_C) (ad : Nat → Nat)    {a0 : Int32} {S : gm_M} {r : Int32}  (hf : Ru_greatestA a0 = some r) : gm_Met l yX6_greatestA cX6_greatestA 1 (some .int) 0 0 cf ad gm_sC 106 [.int a0] S (some (.int r)) S := by
  refine gm_met (by decide +kernel) (Nat.le_of_ble_eq_true rfl) ?_
  intro p e s m args below meth c C hr
  have C : gm_F p s m args meth c cf ad 106 cX6_greatestA 1 RX6 := C
  refine gm_lve (lv' := [(0, .int a0)]) rfl ?_
  unfold Ru_greatestA at hf
  refine gm_iload_n C dX6_greatestA_0 rfl 0 rfl ?_
  refine gm_if_lt C 17 dX6_greatestA_1 (by decide) (fun c1 => ?_) (fun c1 => ?_)
  · have hf := gm_it _ c1 hf
    refine gm_iconst (v := (-1)) C dX6_greatestA_17 (by decide) ?_
    exact gm_iretK C hr rfl dX6_greatestA_18 hf
  · have hf := gm_if _ c1 hf
    refine gm_iload_n C dX6_greatestA_4 rfl 0 rfl ?_
    refine gm_iconst (v := 5) C dX6_greatestA_5 (by decide) ?_
    refine gm_icmp_ge C 17 dX6_greatestA_6 (by decide) (fun c2 => ?_) (fun c2 => ?_)
    · have hf := gm_it _ c2 hf
      refine gm_iconst (v := (-1)) C dX6_greatestA_17 (by decide) ?_
      exact gm_iretK C hr rfl dX6_greatestA_18 hf
    · have hf := gm_if _ c2 hf
      refine gm_great C wl_433 dX6_greatestA_9 (fun q3 h4 => ?_)
      refine gm_iload_n C dX6_greatestA_12 rfl 0 rfl ?_
      obtain ⟨h5, hf⟩ := gm_ck_s hf
      refine gm_tald C h4 h5 dX6_greatestA_13 ?_
      refine gm_goto C 18 dX6_greatestA_14 (by decide) ?_
      exact gm_iretK C hr rfl dX6_greatestA_18 hf
theorem dX6_greatestB_0 : decode cX6_greatestB 0 = .ok (.iload_n 0, 1) := by decide +kernel
theorem dX6_greatestB_1 : decode cX6_greatestB 1 = .ok (.iconst 2, 1) := by decide +kernel
theorem dX6_greatestB_2 : decode cX6_greatestB 2 = .ok (.if_icmp .ne 5, 3) := by decide +kernel
theorem dX6_greatestB_5 : decode cX6_greatestB 5 = .ok (.iconst 4, 1) := by decide +kernel
theorem dX6_greatestB_6 : decode cX6_greatestB 6 = .ok (.ireturn, 1) := by decide +kernel
theorem dX6_greatestB_7 : decode cX6_greatestB 7 = .ok (.iload_n 0, 1) := by decide +kernel
theorem dX6_greatestB_8 : decode cX6_greatestB 8 = .ok (.iconst 3, 1) := by decide +kernel
theorem dX6_greatestB_9 : decode cX6_greatestB 9 = .ok (.if_icmp .ne 9, 3) := by decide +kernel
theorem dX6_greatestB_12 : decode cX6_greatestB 12 = .ok (.iload_n 1, 1) := by decide +kernel
theorem dX6_greatestB_13 : decode cX6_greatestB 13 = .ok (.iconst 1, 1) := by decide +kernel
theorem dX6_greatestB_14 : decode cX6_greatestB 14 = .ok (.isub, 1) := by decide +kernel
theorem dX6_greatestB_15 : decode cX6_greatestB 15 = .ok (.goto 4, 3) := by decide +kernel
theorem dX6_greatestB_18 : decode cX6_greatestB 18 = .ok (.iconst 0, 1) := by decide +kernel
theorem dX6_greatestB_19 : decode cX6_greatestB 19 = .ok (.ireturn, 1) := by decide +kernel
def Ru_greatestB (a0 : Int32) (a1 : Int32) : Option Int32 :=
  if a0 = 2 then (
    some (4)
  ) else (
    if a0 = 3 then (
      some (a1 - 1)
    ) else (
      some (0)
    )
  )
set_option maxHeartbeats 4000000 in
set_option maxRecDepth 100000 in
theorem Ru_greatestB_c (l : Launch) (cf : gm_C) (ad : Nat → Nat)    {a0 : Int32} {a1 : Int32} {S : gm_M} {r : Int32}  (hf : Ru_greatestB a0 a1 = some r) : gm_Met l yX6_greatestB cX6_greatestB 2 (some .int) 0 0 cf ad gm_sC 106 [.int a0, .int a1] S (some (.int r)) S := by
  refine gm_met (by decide +kernel) (Nat.le_of_ble_eq_true rfl) ?_
  intro p e s m args below meth c C hr
  have C : gm_F p s m args meth c cf ad 106 cX6_greatestB 2 RX6 := C
  refine gm_lve (lv' := [(0, .int a0), (1, .int a1)]) rfl ?_
  unfold Ru_greatestB at hf
  refine gm_iload_n C dX6_greatestB_0 rfl 0 rfl ?_
  refine gm_iconst (v := 2) C dX6_greatestB_1 (by decide) ?_
  refine gm_icmp_ne C 7 dX6_greatestB_2 (by decide) (fun c1 => ?_) (fun c1 => ?_)
  · have hf := gm_if _ c1 hf
    refine gm_iload_n C dX6_greatestB_7 rfl 0 rfl ?_
    refine gm_iconst (v := 3) C dX6_greatestB_8 (by decide) ?_
    refine gm_icmp_ne C 18 dX6_greatestB_9 (by decide) (fun c2 => ?_) (fun c2 => ?_)
    · have hf := gm_if _ c2 hf
      refine gm_iconst (v := 0) C dX6_greatestB_18 (by decide) ?_
      exact gm_iretK C hr rfl dX6_greatestB_19 hf
    · have hf := gm_it _ c2 hf
      refine gm_iload_n C dX6_greatestB_12 rfl 1 rfl ?_
      refine gm_iconst (v := 1) C dX6_greatestB_13 (by decide) ?_
      refine gm_isub C dX6_greatestB_14 ?_
      refine gm_goto C 19 dX6_greatestB_15 (by decide) ?_
      exact gm_iretK C hr rfl dX6_greatestB_19 hf
  · have hf := gm_it _ c1 hf
    refine gm_iconst (v := 4) C dX6_greatestB_5 (by decide) ?_
    exact gm_iretK C hr rfl dX6_greatestB_6 hf
theorem dX6_mayBeTold_0 : decode cX6_mayBeTold 0 = .ok (.iload_n 0, 1) := by decide +kernel
theorem dX6_mayBeTold_1 : decode cX6_mayBeTold 1 = .ok (.ifCond .lt 41, 3) := by decide +kernel
theorem dX6_mayBeTold_4 : decode cX6_mayBeTold 4 = .ok (.iload_n 0, 1) := by decide +kernel
theorem dX6_mayBeTold_5 : decode cX6_mayBeTold 5 = .ok (.iconst 5, 1) := by decide +kernel
theorem dX6_mayBeTold_6 : decode cX6_mayBeTold 6 = .ok (.if_icmp .ge 36, 3) := by decide +kernel
theorem dX6_mayBeTold_9 : decode cX6_mayBeTold 9 = .ok (.iload_n 1, 1) := by decide +kernel
theorem dX6_mayBeTold_10 : decode cX6_mayBeTold 10 = .ok (.iload_n 0, 1) := by decide +kernel
theorem dX6_mayBeTold_11 : decode cX6_mayBeTold 11 = .ok (.invokestatic 18, 3) := by decide +kernel
theorem dX6_mayBeTold_14 : decode cX6_mayBeTold 14 = .ok (.if_icmp .lt 28, 3) := by decide +kernel
theorem dX6_mayBeTold_17 : decode cX6_mayBeTold 17 = .ok (.iload_n 1, 1) := by decide +kernel
theorem dX6_mayBeTold_18 : decode cX6_mayBeTold 18 = .ok (.iload_n 0, 1) := by decide +kernel
theorem dX6_mayBeTold_19 : decode cX6_mayBeTold 19 = .ok (.invokestatic 22, 3) := by decide +kernel
theorem dX6_mayBeTold_22 : decode cX6_mayBeTold 22 = .ok (.if_icmp .gt 20, 3) := by decide +kernel
theorem dX6_mayBeTold_25 : decode cX6_mayBeTold 25 = .ok (.iload_n 2, 1) := by decide +kernel
theorem dX6_mayBeTold_26 : decode cX6_mayBeTold 26 = .ok (.ifCond .lt 16, 3) := by decide +kernel
theorem dX6_mayBeTold_29 : decode cX6_mayBeTold 29 = .ok (.iload_n 2, 1) := by decide +kernel
theorem dX6_mayBeTold_30 : decode cX6_mayBeTold 30 = .ok (.iload_n 0, 1) := by decide +kernel
theorem dX6_mayBeTold_31 : decode cX6_mayBeTold 31 = .ok (.iload_n 1, 1) := by decide +kernel
theorem dX6_mayBeTold_32 : decode cX6_mayBeTold 32 = .ok (.invokestatic 25, 3) := by decide +kernel
theorem dX6_mayBeTold_35 : decode cX6_mayBeTold 35 = .ok (.if_icmp .gt 7, 3) := by decide +kernel
theorem dX6_mayBeTold_38 : decode cX6_mayBeTold 38 = .ok (.iconst 1, 1) := by decide +kernel
theorem dX6_mayBeTold_39 : decode cX6_mayBeTold 39 = .ok (.goto 4, 3) := by decide +kernel
theorem dX6_mayBeTold_42 : decode cX6_mayBeTold 42 = .ok (.iconst 0, 1) := by decide +kernel
theorem dX6_mayBeTold_43 : decode cX6_mayBeTold 43 = .ok (.ireturn, 1) := by decide +kernel
def Ru_mayBeTold (a0 : Int32) (a1 : Int32) (a2 : Int32) : Option Int32 :=
  if a0 < 0 then (
    some (0)
  ) else (
    if (5 : Int32) ≤ a0 then (
      some (0)
    ) else (
      gm_bp1 (Ru_leastA a0) fun v3 =>
      if a1 < v3 then (
        some (0)
      ) else (
        gm_bp1 (Ru_greatestA a0) fun v5 =>
        if v5 < a1 then (
          some (0)
        ) else (
          if a2 < 0 then (
            some (0)
          ) else (
            gm_bp1 (Ru_greatestB a0 a1) fun v8 =>
            if v8 < a2 then (
              some (0)
            ) else (
              some (1)
            )
          )
        )
      )
    )
  )
set_option maxHeartbeats 4000000 in
set_option maxRecDepth 100000 in
theorem Ru_mayBeTold_c (l : Launch) (cf : gm_C) (ad : Nat → Nat)    {a0 : Int32} {a1 : Int32} {a2 : Int32} {S : gm_M} {r : Int32}  (hf : Ru_mayBeTold a0 a1 a2 = some r) : gm_Met l yX6_mayBeTold cX6_mayBeTold 3 (some .boolean) 1 21 cf ad gm_sC 106 [.int a0, .int a1, .int a2] S (some (.int r)) S := by
  refine gm_met (by decide +kernel) (Nat.le_of_ble_eq_true rfl) ?_
  intro p e s m args below meth c C hr
  have C : gm_F p s m args meth c cf ad 106 cX6_mayBeTold 3 RX6 := C
  refine gm_lve (lv' := [(0, .int a0), (1, .int a1), (2, .int a2)]) rfl ?_
  unfold Ru_mayBeTold at hf
  refine gm_iload_n C dX6_mayBeTold_0 rfl 0 rfl ?_
  refine gm_if_lt C 42 dX6_mayBeTold_1 (by decide) (fun c1 => ?_) (fun c1 => ?_)
  · have hf := gm_it _ c1 hf
    refine gm_iconst (v := 0) C dX6_mayBeTold_42 (by decide) ?_
    exact gm_iretK C hr rfl dX6_mayBeTold_43 hf
  · have hf := gm_if _ c1 hf
    refine gm_iload_n C dX6_mayBeTold_4 rfl 0 rfl ?_
    refine gm_iconst (v := 5) C dX6_mayBeTold_5 (by decide) ?_
    refine gm_icmp_ge C 42 dX6_mayBeTold_6 (by decide) (fun c2 => ?_) (fun c2 => ?_)
    · have hf := gm_it _ c2 hf
      refine gm_iconst (v := 0) C dX6_mayBeTold_42 (by decide) ?_
      exact gm_iretK C hr rfl dX6_mayBeTold_43 hf
    · have hf := gm_if _ c2 hf
      refine gm_iload_n C dX6_mayBeTold_9 rfl 1 rfl ?_
      refine gm_iload_n C dX6_mayBeTold_10 rfl 0 rfl ?_
      obtain ⟨v3, ev3, hf⟩ := gm_bp1_s hf
      refine gm_callSi (As := [.int a0]) C (Ru_leastA_c l cf ad ev3 (S := S)) wy_Ru_leastA wl_425 rfl ⟨(Nat.le_of_ble_eq_true rfl), (Nat.le_of_ble_eq_true rfl)⟩ rfl (Nat.le_of_ble_eq_true rfl) dX6_mayBeTold_11 ?_
      refine gm_icmp_lt C 42 dX6_mayBeTold_14 (by decide) (fun c4 => ?_) (fun c4 => ?_)
      · have hf := gm_it _ c4 hf
        refine gm_iconst (v := 0) C dX6_mayBeTold_42 (by decide) ?_
        exact gm_iretK C hr rfl dX6_mayBeTold_43 hf
      · have hf := gm_if _ c4 hf
        refine gm_iload_n C dX6_mayBeTold_17 rfl 1 rfl ?_
        refine gm_iload_n C dX6_mayBeTold_18 rfl 0 rfl ?_
        obtain ⟨v5, ev5, hf⟩ := gm_bp1_s hf
        refine gm_callSi (As := [.int a0]) C (Ru_greatestA_c l cf ad ev5 (S := S)) wy_Ru_greatestA wl_430 rfl ⟨(Nat.le_of_ble_eq_true rfl), (Nat.le_of_ble_eq_true rfl)⟩ rfl (Nat.le_of_ble_eq_true rfl) dX6_mayBeTold_19 ?_
        refine gm_icmp_gt C 42 dX6_mayBeTold_22 (by decide) (fun c6 => ?_) (fun c6 => ?_)
        · have hf := gm_it _ c6 hf
          refine gm_iconst (v := 0) C dX6_mayBeTold_42 (by decide) ?_
          exact gm_iretK C hr rfl dX6_mayBeTold_43 hf
        · have hf := gm_if _ c6 hf
          refine gm_iload_n C dX6_mayBeTold_25 rfl 2 rfl ?_
          refine gm_if_lt C 42 dX6_mayBeTold_26 (by decide) (fun c7 => ?_) (fun c7 => ?_)
          · have hf := gm_it _ c7 hf
            refine gm_iconst (v := 0) C dX6_mayBeTold_42 (by decide) ?_
            exact gm_iretK C hr rfl dX6_mayBeTold_43 hf
          · have hf := gm_if _ c7 hf
            refine gm_iload_n C dX6_mayBeTold_29 rfl 2 rfl ?_
            refine gm_iload_n C dX6_mayBeTold_30 rfl 0 rfl ?_
            refine gm_iload_n C dX6_mayBeTold_31 rfl 1 rfl ?_
            obtain ⟨v8, ev8, hf⟩ := gm_bp1_s hf
            refine gm_callSi (As := [.int a0, .int a1]) C (Ru_greatestB_c l cf ad ev8 (S := S)) wy_Ru_greatestB wl_435 rfl ⟨(Nat.le_of_ble_eq_true rfl), (Nat.le_of_ble_eq_true rfl)⟩ rfl (Nat.le_of_ble_eq_true rfl) dX6_mayBeTold_32 ?_
            refine gm_icmp_gt C 42 dX6_mayBeTold_35 (by decide) (fun c9 => ?_) (fun c9 => ?_)
            · have hf := gm_it _ c9 hf
              refine gm_iconst (v := 0) C dX6_mayBeTold_42 (by decide) ?_
              exact gm_iretK C hr rfl dX6_mayBeTold_43 hf
            · have hf := gm_if _ c9 hf
              refine gm_iconst (v := 1) C dX6_mayBeTold_38 (by decide) ?_
              refine gm_goto C 43 dX6_mayBeTold_39 (by decide) ?_
              exact gm_iretK C hr rfl dX6_mayBeTold_43 hf
theorem dX6_code_0 : decode cX6_code 0 = .ok (.iload_n 0, 1) := by decide +kernel
theorem dX6_code_1 : decode cX6_code 1 = .ok (.sipush 10000, 3) := by decide +kernel
theorem dX6_code_4 : decode cX6_code 4 = .ok (.imul, 1) := by decide +kernel
theorem dX6_code_5 : decode cX6_code 5 = .ok (.iload_n 1, 1) := by decide +kernel
theorem dX6_code_6 : decode cX6_code 6 = .ok (.bipush 100, 2) := by decide +kernel
theorem dX6_code_8 : decode cX6_code 8 = .ok (.imul, 1) := by decide +kernel
theorem dX6_code_9 : decode cX6_code 9 = .ok (.iadd, 1) := by decide +kernel
theorem dX6_code_10 : decode cX6_code 10 = .ok (.iload_n 2, 1) := by decide +kernel
theorem dX6_code_11 : decode cX6_code 11 = .ok (.iadd, 1) := by decide +kernel
theorem dX6_code_12 : decode cX6_code 12 = .ok (.ireturn, 1) := by decide +kernel
def Ru_code (a0 : Int32) (a1 : Int32) (a2 : Int32) : Option Int32 :=
  some (((a0 * 10000) + (a1 * 100)) + a2)
set_option maxHeartbeats 4000000 in
set_option maxRecDepth 100000 in
theorem Ru_code_c (l : Launch) (cf : gm_C) (ad : Nat → Nat)    {a0 : Int32} {a1 : Int32} {a2 : Int32} {S : gm_M} {r : Int32}  (hf : Ru_code a0 a1 a2 = some r) : gm_Met l yX6_code cX6_code 3 (some .int) 0 0 cf ad gm_sC 106 [.int a0, .int a1, .int a2] S (some (.int r)) S := by
  refine gm_met (by decide +kernel) (Nat.le_of_ble_eq_true rfl) ?_
  intro p e s m args below meth c C hr
  have C : gm_F p s m args meth c cf ad 106 cX6_code 3 RX6 := C
  refine gm_lve (lv' := [(0, .int a0), (1, .int a1), (2, .int a2)]) rfl ?_
  unfold Ru_code at hf
  refine gm_iload_n C dX6_code_0 rfl 0 rfl ?_
  refine gm_sipush (v := 10000) C dX6_code_1 (by decide) ?_
  refine gm_imul C dX6_code_4 ?_
  refine gm_iload_n C dX6_code_5 rfl 1 rfl ?_
  refine gm_bipush (v := 100) C dX6_code_6 (by decide) ?_
  refine gm_imul C dX6_code_8 ?_
  refine gm_iadd C dX6_code_9 ?_
  refine gm_iload_n C dX6_code_10 rfl 2 rfl ?_
  refine gm_iadd C dX6_code_11 ?_
  exact gm_iretK C hr rfl dX6_code_12 hf
theorem dX9_addRule_0 : decode cX9_addRule 0 = .ok (.aload_n 0, 1) := by decide +kernel
theorem dX9_addRule_1 : decode cX9_addRule 1 = .ok (.getfield 31, 3) := by decide +kernel
theorem dX9_addRule_4 : decode cX9_addRule 4 = .ok (.iconst 4, 1) := by decide +kernel
theorem dX9_addRule_5 : decode cX9_addRule 5 = .ok (.if_icmp .ge 23, 3) := by decide +kernel
theorem dX9_addRule_8 : decode cX9_addRule 8 = .ok (.aload_n 0, 1) := by decide +kernel
theorem dX9_addRule_9 : decode cX9_addRule 9 = .ok (.getfield 9, 3) := by decide +kernel
theorem dX9_addRule_12 : decode cX9_addRule 12 = .ok (.aload_n 0, 1) := by decide +kernel
theorem dX9_addRule_13 : decode cX9_addRule 13 = .ok (.getfield 31, 3) := by decide +kernel
theorem dX9_addRule_16 : decode cX9_addRule 16 = .ok (.iload_n 1, 1) := by decide +kernel
theorem dX9_addRule_17 : decode cX9_addRule 17 = .ok (.iastore, 1) := by decide +kernel
theorem dX9_addRule_18 : decode cX9_addRule 18 = .ok (.aload_n 0, 1) := by decide +kernel
theorem dX9_addRule_19 : decode cX9_addRule 19 = .ok (.dup, 1) := by decide +kernel
theorem dX9_addRule_20 : decode cX9_addRule 20 = .ok (.getfield 31, 3) := by decide +kernel
theorem dX9_addRule_23 : decode cX9_addRule 23 = .ok (.iconst 1, 1) := by decide +kernel
theorem dX9_addRule_24 : decode cX9_addRule 24 = .ok (.iadd, 1) := by decide +kernel
theorem dX9_addRule_25 : decode cX9_addRule 25 = .ok (.putfield 31, 3) := by decide +kernel
theorem dX9_addRule_28 : decode cX9_addRule 28 = .ok (.return_, 1) := by decide +kernel
def Tr_addRule (t : Nat) (a0 : Int32) (S : gm_M) : Option gm_M :=
  if (4 : Int32) ≤ S.1 t 6 then (
    some S
  ) else (
    gm_ck (S.1 t 6) 4 <|
    gm_lt (α := gm_M) (gm_ui S (t + 1) ((S.1 t 6).toNatClampNeg) a0) fun S3 =>
    gm_lt (α := gm_M) (gm_ui S3 t 6 ((S3.1 t 6) + 1)) fun S4 =>
    some S4
  )
set_option maxHeartbeats 4000000 in
set_option maxRecDepth 100000 in
theorem Tr_addRule_c (l : Launch) (cf : gm_C) (ad : Nat → Nat)  {t : Nat} (ht : gm_isTr t) {a0 : Int32} {S : gm_M}  {S'  : gm_M} (hf : Tr_addRule t a0 S = some S') : gm_Met l yX9_addRule cX9_addRule 2 none 0 0 cf ad gm_sC 106 [.ref (ad t), .int a0] S none S' := by
  refine gm_met (by decide +kernel) (Nat.le_of_ble_eq_true rfl) ?_
  intro p e s m args below meth c C hr
  have C : gm_F p s m args meth c cf ad 106 cX9_addRule 2 RX9 := C
  refine gm_lve (lv' := [(0, .ref (ad t)), (1, .int a0)]) rfl ?_
  unfold Tr_addRule at hf
  refine gm_aload_n C dX9_addRule_0 rfl 0 rfl ?_
  refine gm_geti C (gm_tr_l0 ht) (gm_tr_k0 ht) kc_9 (k := 6) rfl (by decide) rfl wl_119 dX9_addRule_1 ?_
  refine gm_iconst (v := 4) C dX9_addRule_4 (by decide) ?_
  refine gm_icmp_ge C 28 dX9_addRule_5 (by decide) (fun c1 => ?_) (fun c1 => ?_)
  · have hf := gm_it _ c1 hf
    exact gm_vret C hr dX9_addRule_28 hf
  · have hf := gm_if _ c1 hf
    refine gm_aload_n C dX9_addRule_8 rfl 0 rfl ?_
    refine gm_getr (j := 1) (u := (t + 1)) C (gm_tr_l0 ht) (gm_tr_k0 ht) kc_9 (k := 0) rfl (by decide) rfl rfl wl_104 dX9_addRule_9 ?_
    refine gm_aload_n C dX9_addRule_12 rfl 0 rfl ?_
    refine gm_geti C (gm_tr_l0 ht) (gm_tr_k0 ht) kc_9 (k := 6) rfl (by decide) rfl wl_119 dX9_addRule_13 ?_
    refine gm_iload_n C dX9_addRule_16 rfl 1 rfl ?_
    obtain ⟨h2, hf⟩ := gm_ck_s hf
    refine gm_iast C (gm_tr_l1 ht) (gm_tr_k1 ht) (gm_tr_n1 ht) h2 dX9_addRule_17 ?_
    obtain ⟨S3, eS3, hf⟩ := gm_lt_s hf
    refine gm_topm eS3 ?_
    refine gm_aload_n C dX9_addRule_18 rfl 0 rfl ?_
    refine gm_dup C dX9_addRule_19 rfl ?_
    refine gm_geti C (gm_tr_l0 ht) (gm_tr_k0 ht) kc_9 (k := 6) rfl (by decide) rfl wl_119 dX9_addRule_20 ?_
    refine gm_iconst (v := 1) C dX9_addRule_23 (by decide) ?_
    refine gm_iadd C dX9_addRule_24 ?_
    refine gm_puti C (gm_tr_l0 ht) (gm_tr_k0 ht) kc_9 (k := 6) rfl (by decide) rfl rfl (kc_9.2.2.2.1 6 (by decide)) rfl rfl wl_119 dX9_addRule_25 ?_
    obtain ⟨S4, eS4, hf⟩ := gm_lt_s hf
    refine gm_topm eS4 ?_
    exact gm_vret C hr dX9_addRule_28 hf
theorem dX5_readRule_0 : decode cX5_readRule 0 = .ok (.aload_n 0, 1) := by decide +kernel
theorem dX5_readRule_1 : decode cX5_readRule 1 = .ok (.iconst 0, 1) := by decide +kernel
theorem dX5_readRule_2 : decode cX5_readRule 2 = .ok (.iconst 4, 1) := by decide +kernel
theorem dX5_readRule_3 : decode cX5_readRule 3 = .ok (.invokevirtual 96, 3) := by decide +kernel
theorem dX5_readRule_6 : decode cX5_readRule 6 = .ok (.istore_n 1, 1) := by decide +kernel
theorem dX5_readRule_7 : decode cX5_readRule 7 = .ok (.aload_n 0, 1) := by decide +kernel
theorem dX5_readRule_8 : decode cX5_readRule 8 = .ok (.iconst 0, 1) := by decide +kernel
theorem dX5_readRule_9 : decode cX5_readRule 9 = .ok (.bipush 99, 2) := by decide +kernel
theorem dX5_readRule_11 : decode cX5_readRule 11 = .ok (.invokevirtual 96, 3) := by decide +kernel
theorem dX5_readRule_14 : decode cX5_readRule 14 = .ok (.istore_n 2, 1) := by decide +kernel
theorem dX5_readRule_15 : decode cX5_readRule 15 = .ok (.aload_n 0, 1) := by decide +kernel
theorem dX5_readRule_16 : decode cX5_readRule 16 = .ok (.getfield 105, 3) := by decide +kernel
theorem dX5_readRule_19 : decode cX5_readRule 19 = .ok (.istore_n 3, 1) := by decide +kernel
theorem dX5_readRule_20 : decode cX5_readRule 20 = .ok (.aload_n 0, 1) := by decide +kernel
theorem dX5_readRule_21 : decode cX5_readRule 21 = .ok (.iconst 0, 1) := by decide +kernel
theorem dX5_readRule_22 : decode cX5_readRule 22 = .ok (.bipush 99, 2) := by decide +kernel
theorem dX5_readRule_24 : decode cX5_readRule 24 = .ok (.invokevirtual 96, 3) := by decide +kernel
theorem dX5_readRule_27 : decode cX5_readRule 27 = .ok (.istore 4, 2) := by decide +kernel
theorem dX5_readRule_29 : decode cX5_readRule 29 = .ok (.aload_n 0, 1) := by decide +kernel
theorem dX5_readRule_30 : decode cX5_readRule 30 = .ok (.getfield 32, 3) := by decide +kernel
theorem dX5_readRule_33 : decode cX5_readRule 33 = .ok (.ifCond .ne 19, 3) := by decide +kernel
theorem dX5_readRule_36 : decode cX5_readRule 36 = .ok (.iload_n 1, 1) := by decide +kernel
theorem dX5_readRule_37 : decode cX5_readRule 37 = .ok (.iload_n 2, 1) := by decide +kernel
theorem dX5_readRule_38 : decode cX5_readRule 38 = .ok (.iload 4, 2) := by decide +kernel
theorem dX5_readRule_40 : decode cX5_readRule 40 = .ok (.invokestatic 108, 3) := by decide +kernel
theorem dX5_readRule_43 : decode cX5_readRule 43 = .ok (.ifCond .ne 9, 3) := by decide +kernel
theorem dX5_readRule_46 : decode cX5_readRule 46 = .ok (.aload_n 0, 1) := by decide +kernel
theorem dX5_readRule_47 : decode cX5_readRule 47 = .ok (.iconst 4, 1) := by decide +kernel
theorem dX5_readRule_48 : decode cX5_readRule 48 = .ok (.iload_n 3, 1) := by decide +kernel
theorem dX5_readRule_49 : decode cX5_readRule 49 = .ok (.invokevirtual 59, 3) := by decide +kernel
theorem dX5_readRule_52 : decode cX5_readRule 52 = .ok (.aload_n 0, 1) := by decide +kernel
theorem dX5_readRule_53 : decode cX5_readRule 53 = .ok (.getfield 32, 3) := by decide +kernel
theorem dX5_readRule_56 : decode cX5_readRule 56 = .ok (.ifCond .ne 17, 3) := by decide +kernel
theorem dX5_readRule_59 : decode cX5_readRule 59 = .ok (.aload_n 0, 1) := by decide +kernel
theorem dX5_readRule_60 : decode cX5_readRule 60 = .ok (.getfield 21, 3) := by decide +kernel
theorem dX5_readRule_63 : decode cX5_readRule 63 = .ok (.iload_n 1, 1) := by decide +kernel
theorem dX5_readRule_64 : decode cX5_readRule 64 = .ok (.iload_n 2, 1) := by decide +kernel
theorem dX5_readRule_65 : decode cX5_readRule 65 = .ok (.iload 4, 2) := by decide +kernel
theorem dX5_readRule_67 : decode cX5_readRule 67 = .ok (.invokestatic 112, 3) := by decide +kernel
theorem dX5_readRule_70 : decode cX5_readRule 70 = .ok (.invokevirtual 116, 3) := by decide +kernel
theorem dX5_readRule_73 : decode cX5_readRule 73 = .ok (.return_, 1) := by decide +kernel
def Rd_readRule (fl : Nat) (S : gm_M) : Option gm_M :=
  gm_bp2 (Rd_readNumber fl 0 4 S) fun v1 S2 =>
  gm_bp2 (Rd_readNumber fl 0 99 S2) fun v3 S4 =>
  gm_lt (α := Int32) (S4.1 1 3) fun x5 =>
  gm_bp2 (Rd_readNumber fl 0 99 S4) fun v6 S7 =>
  gm_bp1 (show Option (gm_M) from
    if S7.1 1 4 = 0 then (
      gm_bp1 (Ru_mayBeTold v1 v3 v6) fun v13 =>
      if v13 = 0 then (
        gm_bp1 (Rd_setFault 4 x5 S7) fun S15 =>
        some (S15)
      ) else (
        some (S7)
      )
    ) else (
      some (S7)
    )
  ) fun S8 =>
  if S8.1 1 4 = 0 then (
    gm_bp1 (Ru_code v1 v3 v6) fun v10 =>
    gm_bp1 (Tr_addRule 4 v10 S8) fun S11 =>
    some S11
  ) else (
    some S8
  )
set_option maxHeartbeats 4000000 in
set_option maxRecDepth 100000 in
theorem Rd_readRule_c (l : Launch) (cf : gm_C) (ad : Nat → Nat) {fl : Nat}    {S : gm_M}  {S'  : gm_M} (hf : Rd_readRule fl S = some S') : gm_Met l yX5_readRule cX5_readRule 5 none 3 66 cf ad gm_sC 106 [.ref (ad 1)] S none S' := by
  refine gm_met (by decide +kernel) (Nat.le_of_ble_eq_true rfl) ?_
  intro p e s m args below meth c C hr
  have C : gm_F p s m args meth c cf ad 106 cX5_readRule 5 RX5 := C
  refine gm_lve (lv' := [(0, .ref (ad 1))]) rfl ?_
  unfold Rd_readRule at hf
  refine gm_aload_n C dX5_readRule_0 rfl 0 rfl ?_
  refine gm_iconst (v := 0) C dX5_readRule_1 (by decide) ?_
  refine gm_iconst (v := 4) C dX5_readRule_2 (by decide) ?_
  obtain ⟨v1, S2, eS2, hf⟩ := gm_bp2_s hf
  refine gm_callVi (As := [.int 0, .int 4]) C (Rd_readNumber_c l cf ad eS2) (Nat.le_of_ble_eq_true rfl) rfl kc_5 wy_Rd_readNumber rfl wl_406 rfl ⟨(Nat.le_of_ble_eq_true rfl), (Nat.le_of_ble_eq_true rfl)⟩ rfl (Nat.le_of_ble_eq_true rfl) dX5_readRule_3 ?_
  refine gm_istore_n (lv' := [(1, .int v1), (0, .ref (ad 1))]) C dX5_readRule_6 rfl (by decide) rfl ?_
  refine gm_aload_n C dX5_readRule_7 rfl 1 rfl ?_
  refine gm_iconst (v := 0) C dX5_readRule_8 (by decide) ?_
  refine gm_bipush (v := 99) C dX5_readRule_9 (by decide) ?_
  obtain ⟨v3, S4, eS4, hf⟩ := gm_bp2_s hf
  refine gm_callVi (As := [.int 0, .int 99]) C (Rd_readNumber_c l cf ad eS4) (Nat.le_of_ble_eq_true rfl) rfl kc_5 wy_Rd_readNumber rfl wl_406 rfl ⟨(Nat.le_of_ble_eq_true rfl), (Nat.le_of_ble_eq_true rfl)⟩ rfl (Nat.le_of_ble_eq_true rfl) dX5_readRule_11 ?_
  refine gm_istore_n (lv' := [(2, .int v3), (1, .int v1), (0, .ref (ad 1))]) C dX5_readRule_14 rfl (by decide) rfl ?_
  refine gm_aload_n C dX5_readRule_15 rfl 2 rfl ?_
  refine gm_geti C (Nat.le_of_ble_eq_true rfl) rfl kc_5 (k := 3) rfl (by decide) rfl wl_154 dX5_readRule_16 ?_
  obtain ⟨x5, ex5, hf⟩ := gm_lt_s hf
  refine gm_topi ex5 ?_
  refine gm_istore_n (lv' := [(3, .int x5), (2, .int v3), (1, .int v1), (0, .ref (ad 1))]) C dX5_readRule_19 rfl (by decide) rfl ?_
  refine gm_aload_n C dX5_readRule_20 rfl 3 rfl ?_
  refine gm_iconst (v := 0) C dX5_readRule_21 (by decide) ?_
  refine gm_bipush (v := 99) C dX5_readRule_22 (by decide) ?_
  obtain ⟨v6, S7, eS7, hf⟩ := gm_bp2_s hf
  refine gm_callVi (As := [.int 0, .int 99]) C (Rd_readNumber_c l cf ad eS7) (Nat.le_of_ble_eq_true rfl) rfl kc_5 wy_Rd_readNumber rfl wl_406 rfl ⟨(Nat.le_of_ble_eq_true rfl), (Nat.le_of_ble_eq_true rfl)⟩ rfl (Nat.le_of_ble_eq_true rfl) dX5_readRule_24 ?_
  refine gm_istore (lv' := [(4, .int v6), (3, .int x5), (2, .int v3), (1, .int v1), (0, .ref (ad 1))]) C dX5_readRule_27 (by decide) rfl ?_
  refine gm_aload_n C dX5_readRule_29 rfl 4 rfl ?_
  refine gm_geti C (Nat.le_of_ble_eq_true rfl) rfl kc_5 (k := 4) rfl (by decide) rfl wl_155 dX5_readRule_30 ?_
  obtain ⟨S8, hx, hf⟩ := gm_bp1_s hf
  have key : gm_G p l e { frames := 3, cells := 0, slots := 0, locals := 66 } s m args below meth c (MQ below (gm_Q cf ad gm_sC 106 none S') args s 0 0 (gm_A ad 106)) cf ad gm_sC 106 5 S8 52 [(0, .ref (ad 1)), (1, .int v1), (2, .int v3), (4, .int v6)] [] := by
    refine gm_aload_n C dX5_readRule_52 rfl 0 rfl ?_
    refine gm_geti C (Nat.le_of_ble_eq_true rfl) rfl kc_5 (k := 4) rfl (by decide) rfl wl_155 dX5_readRule_53 ?_
    refine gm_if_ne C 73 dX5_readRule_56 (by decide) (fun c9 => ?_) (fun c9 => ?_)
    · have hf := gm_if _ c9 hf
      exact gm_vret C hr dX5_readRule_73 hf
    · have hf := gm_it _ c9 hf
      refine gm_aload_n C dX5_readRule_59 rfl 0 rfl ?_
      refine gm_getr (j := 3) (u := 4) C (Nat.le_of_ble_eq_true rfl) rfl kc_5 (k := 1) rfl (by decide) rfl rfl wl_151 dX5_readRule_60 ?_
      refine gm_iload_n C dX5_readRule_63 rfl 1 rfl ?_
      refine gm_iload_n C dX5_readRule_64 rfl 2 rfl ?_
      refine gm_iload C dX5_readRule_65 3 rfl ?_
      obtain ⟨v10, ev10, hf⟩ := gm_bp1_s hf
      refine gm_callSi (As := [.int v1, .int v3, .int v6]) C (Ru_code_c l cf ad ev10 (S := S8)) wy_Ru_code wl_438 rfl ⟨(Nat.le_of_ble_eq_true rfl), (Nat.le_of_ble_eq_true rfl)⟩ rfl (Nat.le_of_ble_eq_true rfl) dX5_readRule_67 ?_
      obtain ⟨S11, eS11, hf⟩ := gm_bp1_s hf
      refine gm_callVv (As := [.int v10]) C (Tr_addRule_c l cf ad gm_tr_4 eS11) (Nat.le_of_ble_eq_true rfl) rfl kc_9 wy_Tr_addRule rfl wl_441 rfl ⟨(Nat.le_of_ble_eq_true rfl), (Nat.le_of_ble_eq_true rfl)⟩ rfl (Nat.le_of_ble_eq_true rfl) dX5_readRule_70 ?_
      exact gm_vret C hr dX5_readRule_73 hf
  have hf := hx
  refine gm_if_ne C 52 dX5_readRule_33 (by decide) (fun c12 => ?_) (fun c12 => ?_)
  · have hf := gm_if _ c12 hf
    cases hf
    exact gm_lvp [4, 3, 2, 0] rfl key
  · have hf := gm_it _ c12 hf
    refine gm_iload_n C dX5_readRule_36 rfl 3 rfl ?_
    refine gm_iload_n C dX5_readRule_37 rfl 2 rfl ?_
    refine gm_iload C dX5_readRule_38 0 rfl ?_
    obtain ⟨v13, ev13, hf⟩ := gm_bp1_s hf
    refine gm_callSi (As := [.int v1, .int v3, .int v6]) C (Ru_mayBeTold_c l cf ad ev13 (S := S7)) wy_Ru_mayBeTold wl_422 rfl ⟨(Nat.le_of_ble_eq_true rfl), (Nat.le_of_ble_eq_true rfl)⟩ rfl (Nat.le_of_ble_eq_true rfl) dX5_readRule_40 ?_
    refine gm_if_ne C 52 dX5_readRule_43 (by decide) (fun c14 => ?_) (fun c14 => ?_)
    · have hf := gm_if _ c14 hf
      cases hf
      exact gm_lvp [4, 3, 2, 0] rfl key
    · have hf := gm_it _ c14 hf
      refine gm_aload_n C dX5_readRule_46 rfl 4 rfl ?_
      refine gm_iconst (v := 4) C dX5_readRule_47 (by decide) ?_
      refine gm_iload_n C dX5_readRule_48 rfl 1 rfl ?_
      obtain ⟨S15, eS15, hf⟩ := gm_bp1_s hf
      refine gm_callVv (As := [.int 4, .int x5]) C (Rd_setFault_c l cf ad eS15) (Nat.le_of_ble_eq_true rfl) rfl kc_5 wy_Rd_setFault rfl wl_394 rfl ⟨(Nat.le_of_ble_eq_true rfl), (Nat.le_of_ble_eq_true rfl)⟩ rfl (Nat.le_of_ble_eq_true rfl) dX5_readRule_49 ?_
      cases hf
      exact gm_lvp [4, 3, 2, 0] rfl key
