theorem dX11_manyCould_0 : decode cX11_manyCould 0 = .ok (.iconst 0, 1) := by decide +kernel
theorem dX11_manyCould_1 : decode cX11_manyCould 1 = .ok (.istore_n 1, 1) := by decide +kernel
theorem dX11_manyCould_2 : decode cX11_manyCould 2 = .ok (.iconst 0, 1) := by decide +kernel
theorem dX11_manyCould_3 : decode cX11_manyCould 3 = .ok (.istore_n 2, 1) := by decide +kernel
theorem dX11_manyCould_4 : decode cX11_manyCould 4 = .ok (.iload_n 2, 1) := by decide +kernel
theorem dX11_manyCould_5 : decode cX11_manyCould 5 = .ok (.sipush 171, 3) := by decide +kernel
theorem dX11_manyCould_8 : decode cX11_manyCould 8 = .ok (.if_icmp .ge 25, 3) := by decide +kernel
theorem dX11_manyCould_11 : decode cX11_manyCould 11 = .ok (.iload_n 1, 1) := by decide +kernel
theorem dX11_manyCould_12 : decode cX11_manyCould 12 = .ok (.aload_n 0, 1) := by decide +kernel
theorem dX11_manyCould_13 : decode cX11_manyCould 13 = .ok (.iload_n 2, 1) := by decide +kernel
theorem dX11_manyCould_14 : decode cX11_manyCould 14 = .ok (.invokevirtual 318, 3) := by decide +kernel
theorem dX11_manyCould_17 : decode cX11_manyCould 17 = .ok (.ifCond .eq 7, 3) := by decide +kernel
theorem dX11_manyCould_20 : decode cX11_manyCould 20 = .ok (.iconst 1, 1) := by decide +kernel
theorem dX11_manyCould_21 : decode cX11_manyCould 21 = .ok (.goto 4, 3) := by decide +kernel
theorem dX11_manyCould_24 : decode cX11_manyCould 24 = .ok (.iconst 0, 1) := by decide +kernel
theorem dX11_manyCould_25 : decode cX11_manyCould 25 = .ok (.iadd, 1) := by decide +kernel
theorem dX11_manyCould_26 : decode cX11_manyCould 26 = .ok (.istore_n 1, 1) := by decide +kernel
theorem dX11_manyCould_27 : decode cX11_manyCould 27 = .ok (.iinc 2 1, 3) := by decide +kernel
theorem dX11_manyCould_30 : decode cX11_manyCould 30 = .ok (.goto (-26), 3) := by decide +kernel
theorem dX11_manyCould_33 : decode cX11_manyCould 33 = .ok (.iload_n 1, 1) := by decide +kernel
theorem dX11_manyCould_34 : decode cX11_manyCould 34 = .ok (.ireturn, 1) := by decide +kernel
def Mo_manyCould_L4_b (fl : Nat) (S : gm_M) (rec : Int32 → Int32 → Option (Int32)) (y1 : Int32) (y2 : Int32) : Option (Int32) :=
  if (171 : Int32) ≤ y2 then (
    some (y1)
  ) else (
    gm_bp1 (Mo_couldBe fl y2 S) fun v5 =>
    gm_bp1 (show Option (Int32) from
      if v5 = 0 then (
        some (0)
      ) else (
        some (1)
      )
    ) fun x6 =>
    gm_lt (α := Int32) (y1 + x6) fun x7 =>
    gm_lt (α := Int32) (y2 + 1) fun x8 =>
    rec x7 x8
  )
def Mo_manyCould_L4 (fl : Nat) (S : gm_M) : Nat → Int32 → Int32 → Option (Int32)
  | 0 => fun _ _ => none
  | n + 1 => Mo_manyCould_L4_b fl S (Mo_manyCould_L4 fl S n)
def Mo_manyCould (fl : Nat) (S : gm_M) : Option Int32 :=
  gm_bp1 (Mo_manyCould_L4 fl S fl 0 0) fun z3 =>
  some (z3)
set_option maxHeartbeats 4000000 in
set_option maxRecDepth 100000 in
theorem Mo_manyCould_c (l : Launch) (cf : gm_C) (ad : Nat → Nat) {fl : Nat}    {S : gm_M} {r : Int32}  (hf : Mo_manyCould fl S = some r) : gm_Met l yX11_manyCould cX11_manyCould 3 (some .int) 5 118 cf ad gm_sM 17 [.ref (ad 0)] S (some (.int r)) S := by
  refine gm_met (by decide +kernel) (Nat.le_of_ble_eq_true rfl) ?_
  intro p e s m args below meth c C hr
  have C : gm_F p s m args meth c cf ad 17 cX11_manyCould 3 RX11 := C
  refine gm_lve (lv' := [(0, .ref (ad 0))]) rfl ?_
  unfold Mo_manyCould at hf
  refine gm_iconst (v := 0) C dX11_manyCould_0 (by decide) ?_
  refine gm_istore_n (lv' := [(1, .int 0), (0, .ref (ad 0))]) C dX11_manyCould_1 rfl (by decide) rfl ?_
  refine gm_iconst (v := 0) C dX11_manyCould_2 (by decide) ?_
  refine gm_istore_n (lv' := [(2, .int 0), (1, .int 0), (0, .ref (ad 0))]) C dX11_manyCould_3 rfl (by decide) rfl ?_
  have L4 : ∀ (n : Nat) (y1 : Int32) (y2 : Int32) (z3 : Int32), Mo_manyCould_L4 fl S n y1 y2 = some (z3) → gm_G p l e { frames := 5, cells := 0, slots := 0, locals := 118 } s m args below meth c (MQ below (gm_Q cf ad gm_sM 17 (some (.int r)) S) args s 0 0 (gm_A ad 17)) cf ad gm_sM 17 3 S 33 [(1, .int z3)] [] → gm_G p l e { frames := 5, cells := 0, slots := 0, locals := 118 } s m args below meth c (MQ below (gm_Q cf ad gm_sM 17 (some (.int r)) S) args s 0 0 (gm_A ad 17)) cf ad gm_sM 17 3 S 4 [(0, .ref (ad 0)), (1, .int y1), (2, .int y2)] [] := by
    intro n
    induction n with
    | zero => intro y1 y2 z3 hf K; cases (show (none : Option _) = some _ from hf)
    | succ n ih =>
      intro y1 y2 z3 hf K
      have hf : Mo_manyCould_L4_b fl S (Mo_manyCould_L4 fl S n) y1 y2 = some (z3) := hf
      unfold Mo_manyCould_L4_b at hf
      refine gm_iload_n C dX11_manyCould_4 rfl 2 rfl ?_
      refine gm_sipush (v := 171) C dX11_manyCould_5 (by decide) ?_
      refine gm_icmp_ge C 33 dX11_manyCould_8 (by decide) (fun c4 => ?_) (fun c4 => ?_)
      · have hf := gm_it _ c4 hf
        cases hf
        exact gm_lvp [1] rfl K
      · have hf := gm_if _ c4 hf
        refine gm_iload_n C dX11_manyCould_11 rfl 1 rfl ?_
        refine gm_aload_n C dX11_manyCould_12 rfl 0 rfl ?_
        refine gm_iload_n C dX11_manyCould_13 rfl 2 rfl ?_
        obtain ⟨v5, ev5, hf⟩ := gm_bp1_s hf
        refine gm_callVi (As := [.int y2]) C (Mo_couldBe_c l cf ad ev5) (Nat.le_of_ble_eq_true rfl) rfl kc_11 wy_Mo_couldBe rfl wl_1098 rfl ⟨(Nat.le_of_ble_eq_true rfl), (Nat.le_of_ble_eq_true rfl)⟩ rfl (Nat.le_of_ble_eq_true rfl) dX11_manyCould_14 ?_
        obtain ⟨x6, hx, hf⟩ := gm_bp1_s hf
        have key : gm_G p l e { frames := 5, cells := 0, slots := 0, locals := 118 } s m args below meth c (MQ below (gm_Q cf ad gm_sM 17 (some (.int r)) S) args s 0 0 (gm_A ad 17)) cf ad gm_sM 17 3 S 25 [(0, .ref (ad 0)), (2, .int y2)] [.int x6, .int y1] := by
          refine gm_iadd C dX11_manyCould_25 ?_
          obtain ⟨x7, ex7, hf⟩ := gm_lt_s hf
          refine gm_topi ex7 ?_
          refine gm_istore_n (lv' := [(1, .int x7), (0, .ref (ad 0)), (2, .int y2)]) C dX11_manyCould_26 rfl (by decide) rfl ?_
          obtain ⟨x8, ex8, hf⟩ := gm_lt_s hf
          refine gm_iinc (v := x8) (lv' := [(2, .int x8), (1, .int x7), (0, .ref (ad 0))]) (j := 2) C dX11_manyCould_27 rfl (by rw [ex8]; rfl) (by decide) rfl ?_
          refine gm_goto C 4 dX11_manyCould_30 (by decide) ?_
          exact gm_lvp [2, 1, 0] rfl (ih _ _ _ hf K)
        have hf := hx
        refine gm_if_eq C 24 dX11_manyCould_17 (by decide) (fun c9 => ?_) (fun c9 => ?_)
        · have hf := gm_it _ c9 hf
          refine gm_iconst (v := 0) C dX11_manyCould_24 (by decide) ?_
          cases hf
          exact gm_lvp [0, 2] rfl key
        · have hf := gm_if _ c9 hf
          refine gm_iconst (v := 1) C dX11_manyCould_20 (by decide) ?_
          refine gm_goto C 25 dX11_manyCould_21 (by decide) ?_
          cases hf
          exact gm_lvp [0, 2] rfl key
  obtain ⟨z3, hx, hf⟩ := gm_bp1_s hf
  refine gm_lvp [2, 1, 0] rfl (L4 fl _ _ _ hx ?_)
  refine gm_iload_n C dX11_manyCould_33 rfl 0 rfl ?_
  exact gm_iretK C hr rfl dX11_manyCould_34 hf
theorem dX11_manyYes_0 : decode cX11_manyYes 0 = .ok (.iconst 0, 1) := by decide +kernel
theorem dX11_manyYes_1 : decode cX11_manyYes 1 = .ok (.istore_n 2, 1) := by decide +kernel
theorem dX11_manyYes_2 : decode cX11_manyYes 2 = .ok (.iconst 0, 1) := by decide +kernel
theorem dX11_manyYes_3 : decode cX11_manyYes 3 = .ok (.istore_n 3, 1) := by decide +kernel
theorem dX11_manyYes_4 : decode cX11_manyYes 4 = .ok (.iload_n 3, 1) := by decide +kernel
theorem dX11_manyYes_5 : decode cX11_manyYes 5 = .ok (.sipush 171, 3) := by decide +kernel
theorem dX11_manyYes_8 : decode cX11_manyYes 8 = .ok (.if_icmp .ge 34, 3) := by decide +kernel
theorem dX11_manyYes_11 : decode cX11_manyYes 11 = .ok (.iload_n 2, 1) := by decide +kernel
theorem dX11_manyYes_12 : decode cX11_manyYes 12 = .ok (.aload_n 0, 1) := by decide +kernel
theorem dX11_manyYes_13 : decode cX11_manyYes 13 = .ok (.iload_n 3, 1) := by decide +kernel
theorem dX11_manyYes_14 : decode cX11_manyYes 14 = .ok (.invokevirtual 318, 3) := by decide +kernel
theorem dX11_manyYes_17 : decode cX11_manyYes 17 = .ok (.ifCond .eq 16, 3) := by decide +kernel
theorem dX11_manyYes_20 : decode cX11_manyYes 20 = .ok (.aload_n 0, 1) := by decide +kernel
theorem dX11_manyYes_21 : decode cX11_manyYes 21 = .ok (.iload_n 3, 1) := by decide +kernel
theorem dX11_manyYes_22 : decode cX11_manyYes 22 = .ok (.iload_n 1, 1) := by decide +kernel
theorem dX11_manyYes_23 : decode cX11_manyYes 23 = .ok (.invokevirtual 315, 3) := by decide +kernel
theorem dX11_manyYes_26 : decode cX11_manyYes 26 = .ok (.ifCond .eq 7, 3) := by decide +kernel
theorem dX11_manyYes_29 : decode cX11_manyYes 29 = .ok (.iconst 1, 1) := by decide +kernel
theorem dX11_manyYes_30 : decode cX11_manyYes 30 = .ok (.goto 4, 3) := by decide +kernel
theorem dX11_manyYes_33 : decode cX11_manyYes 33 = .ok (.iconst 0, 1) := by decide +kernel
theorem dX11_manyYes_34 : decode cX11_manyYes 34 = .ok (.iadd, 1) := by decide +kernel
theorem dX11_manyYes_35 : decode cX11_manyYes 35 = .ok (.istore_n 2, 1) := by decide +kernel
theorem dX11_manyYes_36 : decode cX11_manyYes 36 = .ok (.iinc 3 1, 3) := by decide +kernel
theorem dX11_manyYes_39 : decode cX11_manyYes 39 = .ok (.goto (-35), 3) := by decide +kernel
theorem dX11_manyYes_42 : decode cX11_manyYes 42 = .ok (.iload_n 2, 1) := by decide +kernel
theorem dX11_manyYes_43 : decode cX11_manyYes 43 = .ok (.ireturn, 1) := by decide +kernel
def Mo_manyYes_L4_b (fl : Nat) (a0 : Int32) (S : gm_M) (rec : Int32 → Int32 → Option (Int32)) (y1 : Int32) (y2 : Int32) : Option (Int32) :=
  if (171 : Int32) ≤ y2 then (
    some (y1)
  ) else (
    gm_bp1 (Mo_couldBe fl y2 S) fun v5 =>
    gm_bp1 (show Option (Int32) from
      if v5 = 0 then (
        some (0)
      ) else (
        gm_bp1 (Mo_saysOf fl y2 a0 S) fun v10 =>
        if v10 = 0 then (
          some (0)
        ) else (
          some (1)
        )
      )
    ) fun x6 =>
    gm_lt (α := Int32) (y1 + x6) fun x7 =>
    gm_lt (α := Int32) (y2 + 1) fun x8 =>
    rec x7 x8
  )
def Mo_manyYes_L4 (fl : Nat) (a0 : Int32) (S : gm_M) : Nat → Int32 → Int32 → Option (Int32)
  | 0 => fun _ _ => none
  | n + 1 => Mo_manyYes_L4_b fl a0 S (Mo_manyYes_L4 fl a0 S n)
def Mo_manyYes (fl : Nat) (a0 : Int32) (S : gm_M) : Option Int32 :=
  gm_bp1 (Mo_manyYes_L4 fl a0 S fl 0 0) fun z3 =>
  some (z3)
set_option maxHeartbeats 4000000 in
set_option maxRecDepth 100000 in
theorem Mo_manyYes_c (l : Launch) (cf : gm_C) (ad : Nat → Nat) {fl : Nat}   {a0 : Int32} {S : gm_M} {r : Int32}  (hf : Mo_manyYes fl a0 S = some r) : gm_Met l yX11_manyYes cX11_manyYes 4 (some .int) 5 118 cf ad gm_sM 17 [.ref (ad 0), .int a0] S (some (.int r)) S := by
  refine gm_met (by decide +kernel) (Nat.le_of_ble_eq_true rfl) ?_
  intro p e s m args below meth c C hr
  have C : gm_F p s m args meth c cf ad 17 cX11_manyYes 4 RX11 := C
  refine gm_lve (lv' := [(0, .ref (ad 0)), (1, .int a0)]) rfl ?_
  unfold Mo_manyYes at hf
  refine gm_iconst (v := 0) C dX11_manyYes_0 (by decide) ?_
  refine gm_istore_n (lv' := [(2, .int 0), (0, .ref (ad 0)), (1, .int a0)]) C dX11_manyYes_1 rfl (by decide) rfl ?_
  refine gm_iconst (v := 0) C dX11_manyYes_2 (by decide) ?_
  refine gm_istore_n (lv' := [(3, .int 0), (2, .int 0), (0, .ref (ad 0)), (1, .int a0)]) C dX11_manyYes_3 rfl (by decide) rfl ?_
  have L4 : ∀ (n : Nat) (y1 : Int32) (y2 : Int32) (z3 : Int32), Mo_manyYes_L4 fl a0 S n y1 y2 = some (z3) → gm_G p l e { frames := 5, cells := 0, slots := 0, locals := 118 } s m args below meth c (MQ below (gm_Q cf ad gm_sM 17 (some (.int r)) S) args s 0 0 (gm_A ad 17)) cf ad gm_sM 17 4 S 42 [(2, .int z3)] [] → gm_G p l e { frames := 5, cells := 0, slots := 0, locals := 118 } s m args below meth c (MQ below (gm_Q cf ad gm_sM 17 (some (.int r)) S) args s 0 0 (gm_A ad 17)) cf ad gm_sM 17 4 S 4 [(0, .ref (ad 0)), (1, .int a0), (2, .int y1), (3, .int y2)] [] := by
    intro n
    induction n with
    | zero => intro y1 y2 z3 hf K; cases (show (none : Option _) = some _ from hf)
    | succ n ih =>
      intro y1 y2 z3 hf K
      have hf : Mo_manyYes_L4_b fl a0 S (Mo_manyYes_L4 fl a0 S n) y1 y2 = some (z3) := hf
      unfold Mo_manyYes_L4_b at hf
      refine gm_iload_n C dX11_manyYes_4 rfl 3 rfl ?_
      refine gm_sipush (v := 171) C dX11_manyYes_5 (by decide) ?_
      refine gm_icmp_ge C 42 dX11_manyYes_8 (by decide) (fun c4 => ?_) (fun c4 => ?_)
      · have hf := gm_it _ c4 hf
        cases hf
        exact gm_lvp [2] rfl K
      · have hf := gm_if _ c4 hf
        refine gm_iload_n C dX11_manyYes_11 rfl 2 rfl ?_
        refine gm_aload_n C dX11_manyYes_12 rfl 0 rfl ?_
        refine gm_iload_n C dX11_manyYes_13 rfl 3 rfl ?_
        obtain ⟨v5, ev5, hf⟩ := gm_bp1_s hf
        refine gm_callVi (As := [.int y2]) C (Mo_couldBe_c l cf ad ev5) (Nat.le_of_ble_eq_true rfl) rfl kc_11 wy_Mo_couldBe rfl wl_1098 rfl ⟨(Nat.le_of_ble_eq_true rfl), (Nat.le_of_ble_eq_true rfl)⟩ rfl (Nat.le_of_ble_eq_true rfl) dX11_manyYes_14 ?_
        obtain ⟨x6, hx, hf⟩ := gm_bp1_s hf
        have key : gm_G p l e { frames := 5, cells := 0, slots := 0, locals := 118 } s m args below meth c (MQ below (gm_Q cf ad gm_sM 17 (some (.int r)) S) args s 0 0 (gm_A ad 17)) cf ad gm_sM 17 4 S 34 [(0, .ref (ad 0)), (1, .int a0), (3, .int y2)] [.int x6, .int y1] := by
          refine gm_iadd C dX11_manyYes_34 ?_
          obtain ⟨x7, ex7, hf⟩ := gm_lt_s hf
          refine gm_topi ex7 ?_
          refine gm_istore_n (lv' := [(2, .int x7), (0, .ref (ad 0)), (1, .int a0), (3, .int y2)]) C dX11_manyYes_35 rfl (by decide) rfl ?_
          obtain ⟨x8, ex8, hf⟩ := gm_lt_s hf
          refine gm_iinc (v := x8) (lv' := [(3, .int x8), (2, .int x7), (0, .ref (ad 0)), (1, .int a0)]) (j := 3) C dX11_manyYes_36 rfl (by rw [ex8]; rfl) (by decide) rfl ?_
          refine gm_goto C 4 dX11_manyYes_39 (by decide) ?_
          exact gm_lvp [2, 3, 1, 0] rfl (ih _ _ _ hf K)
        have hf := hx
        refine gm_if_eq C 33 dX11_manyYes_17 (by decide) (fun c9 => ?_) (fun c9 => ?_)
        · have hf := gm_it _ c9 hf
          refine gm_iconst (v := 0) C dX11_manyYes_33 (by decide) ?_
          cases hf
          exact gm_lvp [0, 1, 3] rfl key
        · have hf := gm_if _ c9 hf
          refine gm_aload_n C dX11_manyYes_20 rfl 0 rfl ?_
          refine gm_iload_n C dX11_manyYes_21 rfl 3 rfl ?_
          refine gm_iload_n C dX11_manyYes_22 rfl 1 rfl ?_
          obtain ⟨v10, ev10, hf⟩ := gm_bp1_s hf
          refine gm_callVi (As := [.int y2, .int a0]) C (Mo_saysOf_c l cf ad ev10) (Nat.le_of_ble_eq_true rfl) rfl kc_11 wy_Mo_saysOf rfl wl_1102 rfl ⟨(Nat.le_of_ble_eq_true rfl), (Nat.le_of_ble_eq_true rfl)⟩ rfl (Nat.le_of_ble_eq_true rfl) dX11_manyYes_23 ?_
          refine gm_if_eq C 33 dX11_manyYes_26 (by decide) (fun c11 => ?_) (fun c11 => ?_)
          · have hf := gm_it _ c11 hf
            refine gm_iconst (v := 0) C dX11_manyYes_33 (by decide) ?_
            cases hf
            exact gm_lvp [0, 1, 3] rfl key
          · have hf := gm_if _ c11 hf
            refine gm_iconst (v := 1) C dX11_manyYes_29 (by decide) ?_
            refine gm_goto C 34 dX11_manyYes_30 (by decide) ?_
            cases hf
            exact gm_lvp [0, 1, 3] rfl key
  obtain ⟨z3, hx, hf⟩ := gm_bp1_s hf
  refine gm_lvp [2, 3, 1, 0] rfl (L4 fl _ _ _ hx ?_)
  refine gm_iload_n C dX11_manyYes_42 rfl 0 rfl ?_
  exact gm_iretK C hr rfl dX11_manyYes_43 hf
theorem dX11_askNext_0 : decode cX11_askNext 0 = .ok (.aload_n 0, 1) := by decide +kernel
theorem dX11_askNext_1 : decode cX11_askNext 1 = .ok (.invokevirtual 242, 3) := by decide +kernel
theorem dX11_askNext_4 : decode cX11_askNext 4 = .ok (.istore_n 1, 1) := by decide +kernel
theorem dX11_askNext_5 : decode cX11_askNext 5 = .ok (.iconst (-1), 1) := by decide +kernel
theorem dX11_askNext_6 : decode cX11_askNext 6 = .ok (.istore_n 2, 1) := by decide +kernel
theorem dX11_askNext_7 : decode cX11_askNext 7 = .ok (.iload_n 1, 1) := by decide +kernel
theorem dX11_askNext_8 : decode cX11_askNext 8 = .ok (.istore_n 3, 1) := by decide +kernel
theorem dX11_askNext_9 : decode cX11_askNext 9 = .ok (.iconst 0, 1) := by decide +kernel
theorem dX11_askNext_10 : decode cX11_askNext 10 = .ok (.istore 4, 2) := by decide +kernel
theorem dX11_askNext_12 : decode cX11_askNext 12 = .ok (.iload 4, 2) := by decide +kernel
theorem dX11_askNext_14 : decode cX11_askNext 14 = .ok (.bipush 99, 2) := by decide +kernel
theorem dX11_askNext_16 : decode cX11_askNext 16 = .ok (.if_icmp .gt 70, 3) := by decide +kernel
theorem dX11_askNext_19 : decode cX11_askNext 19 = .ok (.aload_n 0, 1) := by decide +kernel
theorem dX11_askNext_20 : decode cX11_askNext 20 = .ok (.getfield 63, 3) := by decide +kernel
theorem dX11_askNext_23 : decode cX11_askNext 23 = .ok (.ifCond .le 63, 3) := by decide +kernel
theorem dX11_askNext_26 : decode cX11_askNext 26 = .ok (.aload_n 0, 1) := by decide +kernel
theorem dX11_askNext_27 : decode cX11_askNext 27 = .ok (.iload 4, 2) := by decide +kernel
theorem dX11_askNext_29 : decode cX11_askNext 29 = .ok (.invokevirtual 321, 3) := by decide +kernel
theorem dX11_askNext_32 : decode cX11_askNext 32 = .ok (.istore 5, 2) := by decide +kernel
theorem dX11_askNext_34 : decode cX11_askNext 34 = .ok (.iload 5, 2) := by decide +kernel
theorem dX11_askNext_36 : decode cX11_askNext 36 = .ok (.iload_n 1, 1) := by decide +kernel
theorem dX11_askNext_37 : decode cX11_askNext 37 = .ok (.iload 5, 2) := by decide +kernel
theorem dX11_askNext_39 : decode cX11_askNext 39 = .ok (.isub, 1) := by decide +kernel
theorem dX11_askNext_40 : decode cX11_askNext 40 = .ok (.if_icmp .le 8, 3) := by decide +kernel
theorem dX11_askNext_43 : decode cX11_askNext 43 = .ok (.iload 5, 2) := by decide +kernel
theorem dX11_askNext_45 : decode cX11_askNext 45 = .ok (.goto 7, 3) := by decide +kernel
theorem dX11_askNext_48 : decode cX11_askNext 48 = .ok (.iload_n 1, 1) := by decide +kernel
theorem dX11_askNext_49 : decode cX11_askNext 49 = .ok (.iload 5, 2) := by decide +kernel
theorem dX11_askNext_51 : decode cX11_askNext 51 = .ok (.isub, 1) := by decide +kernel
theorem dX11_askNext_52 : decode cX11_askNext 52 = .ok (.istore 6, 2) := by decide +kernel
theorem dX11_askNext_54 : decode cX11_askNext 54 = .ok (.iload 6, 2) := by decide +kernel
theorem dX11_askNext_56 : decode cX11_askNext 56 = .ok (.iload_n 3, 1) := by decide +kernel
theorem dX11_askNext_57 : decode cX11_askNext 57 = .ok (.if_icmp .ge 8, 3) := by decide +kernel
theorem dX11_askNext_60 : decode cX11_askNext 60 = .ok (.iload 4, 2) := by decide +kernel
theorem dX11_askNext_62 : decode cX11_askNext 62 = .ok (.goto 4, 3) := by decide +kernel
theorem dX11_askNext_65 : decode cX11_askNext 65 = .ok (.iload_n 2, 1) := by decide +kernel
theorem dX11_askNext_66 : decode cX11_askNext 66 = .ok (.istore_n 2, 1) := by decide +kernel
theorem dX11_askNext_67 : decode cX11_askNext 67 = .ok (.iload 6, 2) := by decide +kernel
theorem dX11_askNext_69 : decode cX11_askNext 69 = .ok (.iload_n 3, 1) := by decide +kernel
theorem dX11_askNext_70 : decode cX11_askNext 70 = .ok (.if_icmp .ge 8, 3) := by decide +kernel
theorem dX11_askNext_73 : decode cX11_askNext 73 = .ok (.iload 6, 2) := by decide +kernel
theorem dX11_askNext_75 : decode cX11_askNext 75 = .ok (.goto 4, 3) := by decide +kernel
theorem dX11_askNext_78 : decode cX11_askNext 78 = .ok (.iload_n 3, 1) := by decide +kernel
theorem dX11_askNext_79 : decode cX11_askNext 79 = .ok (.istore_n 3, 1) := by decide +kernel
theorem dX11_askNext_80 : decode cX11_askNext 80 = .ok (.iinc 4 1, 3) := by decide +kernel
theorem dX11_askNext_83 : decode cX11_askNext 83 = .ok (.goto (-71), 3) := by decide +kernel
theorem dX11_askNext_86 : decode cX11_askNext 86 = .ok (.iload_n 2, 1) := by decide +kernel
theorem dX11_askNext_87 : decode cX11_askNext 87 = .ok (.ireturn, 1) := by decide +kernel
def Mo_askNext_L12_b (fl : Nat) (S : gm_M) (v1 : Int32) (rec : Int32 → Int32 → Int32 → Option (Int32)) (y2 : Int32) (y3 : Int32) (y4 : Int32) : Option (Int32) :=
  if (99 : Int32) < y4 then (
    some (y2)
  ) else (
    if S.1 0 0 ≤ 0 then (
      some (y2)
    ) else (
      gm_bp1 (Mo_manyYes fl y4 S) fun v8 =>
      gm_bp1 (show Option (Int32) from
        if v8 ≤ v1 - v8 then (
          some (v1 - v8)
        ) else (
          some (v8)
        )
      ) fun x9 =>
      gm_bp1 (show Option (Int32) from
        if y3 ≤ x9 then (
          some (y2)
        ) else (
          some (y4)
        )
      ) fun x10 =>
      gm_bp1 (show Option (Int32) from
        if y3 ≤ x9 then (
          some (y3)
        ) else (
          some (x9)
        )
      ) fun x11 =>
      gm_lt (α := Int32) (y4 + 1) fun x12 =>
      rec x10 x11 x12
    )
  )
def Mo_askNext_L12 (fl : Nat) (S : gm_M) (v1 : Int32) : Nat → Int32 → Int32 → Int32 → Option (Int32)
  | 0 => fun _ _ _ => none
  | n + 1 => Mo_askNext_L12_b fl S v1 (Mo_askNext_L12 fl S v1 n)
def Mo_askNext (fl : Nat) (S : gm_M) : Option Int32 :=
  gm_bp1 (Mo_manyCould fl S) fun v1 =>
  gm_bp1 (Mo_askNext_L12 fl S v1 fl (-1) v1 0) fun z5 =>
  some (z5)
set_option maxHeartbeats 4000000 in
set_option maxRecDepth 100000 in
theorem Mo_askNext_c (l : Launch) (cf : gm_C) (ad : Nat → Nat) {fl : Nat}    {S : gm_M} {r : Int32}  (hf : Mo_askNext fl S = some r) : gm_Met l yX11_askNext cX11_askNext 7 (some .int) 6 141 cf ad gm_sM 17 [.ref (ad 0)] S (some (.int r)) S := by
  refine gm_met (by decide +kernel) (Nat.le_of_ble_eq_true rfl) ?_
  intro p e s m args below meth c C hr
  have C : gm_F p s m args meth c cf ad 17 cX11_askNext 7 RX11 := C
  refine gm_lve (lv' := [(0, .ref (ad 0))]) rfl ?_
  unfold Mo_askNext at hf
  refine gm_aload_n C dX11_askNext_0 rfl 0 rfl ?_
  obtain ⟨v1, ev1, hf⟩ := gm_bp1_s hf
  refine gm_callVi (As := []) C (Mo_manyCould_c l cf ad ev1) (Nat.le_of_ble_eq_true rfl) rfl kc_11 wy_Mo_manyCould rfl wl_1094 rfl ⟨(Nat.le_of_ble_eq_true rfl), (Nat.le_of_ble_eq_true rfl)⟩ rfl (Nat.le_of_ble_eq_true rfl) dX11_askNext_1 ?_
  refine gm_istore_n (lv' := [(1, .int v1), (0, .ref (ad 0))]) C dX11_askNext_4 rfl (by decide) rfl ?_
  refine gm_iconst (v := (-1)) C dX11_askNext_5 (by decide) ?_
  refine gm_istore_n (lv' := [(2, .int (-1)), (1, .int v1), (0, .ref (ad 0))]) C dX11_askNext_6 rfl (by decide) rfl ?_
  refine gm_iload_n C dX11_askNext_7 rfl 1 rfl ?_
  refine gm_istore_n (lv' := [(3, .int v1), (2, .int (-1)), (1, .int v1), (0, .ref (ad 0))]) C dX11_askNext_8 rfl (by decide) rfl ?_
  refine gm_iconst (v := 0) C dX11_askNext_9 (by decide) ?_
  refine gm_istore (lv' := [(4, .int 0), (3, .int v1), (2, .int (-1)), (1, .int v1), (0, .ref (ad 0))]) C dX11_askNext_10 (by decide) rfl ?_
  have L12 : ∀ (n : Nat) (y2 : Int32) (y3 : Int32) (y4 : Int32) (z5 : Int32), Mo_askNext_L12 fl S v1 n y2 y3 y4 = some (z5) → gm_G p l e { frames := 6, cells := 0, slots := 0, locals := 141 } s m args below meth c (MQ below (gm_Q cf ad gm_sM 17 (some (.int r)) S) args s 0 0 (gm_A ad 17)) cf ad gm_sM 17 7 S 86 [(2, .int z5)] [] → gm_G p l e { frames := 6, cells := 0, slots := 0, locals := 141 } s m args below meth c (MQ below (gm_Q cf ad gm_sM 17 (some (.int r)) S) args s 0 0 (gm_A ad 17)) cf ad gm_sM 17 7 S 12 [(0, .ref (ad 0)), (1, .int v1), (2, .int y2), (3, .int y3), (4, .int y4)] [] := by
    intro n
    induction n with
    | zero => intro y2 y3 y4 z5 hf K; cases (show (none : Option _) = some _ from hf)
    | succ n ih =>
      intro y2 y3 y4 z5 hf K
      have hf : Mo_askNext_L12_b fl S v1 (Mo_askNext_L12 fl S v1 n) y2 y3 y4 = some (z5) := hf
      unfold Mo_askNext_L12_b at hf
      refine gm_iload C dX11_askNext_12 4 rfl ?_
      refine gm_bipush (v := 99) C dX11_askNext_14 (by decide) ?_
      refine gm_icmp_gt C 86 dX11_askNext_16 (by decide) (fun c6 => ?_) (fun c6 => ?_)
      · have hf := gm_it _ c6 hf
        cases hf
        exact gm_lvp [2] rfl K
      · have hf := gm_if _ c6 hf
        refine gm_aload_n C dX11_askNext_19 rfl 0 rfl ?_
        refine gm_geti C (Nat.le_of_ble_eq_true rfl) rfl kc_11 (k := 0) rfl (by decide) rfl wl_840 dX11_askNext_20 ?_
        refine gm_if_le C 86 dX11_askNext_23 (by decide) (fun c7 => ?_) (fun c7 => ?_)
        · have hf := gm_it _ c7 hf
          cases hf
          exact gm_lvp [2] rfl K
        · have hf := gm_if _ c7 hf
          refine gm_aload_n C dX11_askNext_26 rfl 0 rfl ?_
          refine gm_iload C dX11_askNext_27 4 rfl ?_
          obtain ⟨v8, ev8, hf⟩ := gm_bp1_s hf
          refine gm_callVi (As := [.int y4]) C (Mo_manyYes_c l cf ad ev8) (Nat.le_of_ble_eq_true rfl) rfl kc_11 wy_Mo_manyYes rfl wl_1122 rfl ⟨(Nat.le_of_ble_eq_true rfl), (Nat.le_of_ble_eq_true rfl)⟩ rfl (Nat.le_of_ble_eq_true rfl) dX11_askNext_29 ?_
          refine gm_istore (lv' := [(5, .int v8), (0, .ref (ad 0)), (1, .int v1), (2, .int y2), (3, .int y3), (4, .int y4)]) C dX11_askNext_32 (by decide) rfl ?_
          refine gm_iload C dX11_askNext_34 0 rfl ?_
          refine gm_iload_n C dX11_askNext_36 rfl 2 rfl ?_
          refine gm_iload C dX11_askNext_37 0 rfl ?_
          refine gm_isub C dX11_askNext_39 ?_
          obtain ⟨x9, hx, hf⟩ := gm_bp1_s hf
          have key : gm_G p l e { frames := 6, cells := 0, slots := 0, locals := 141 } s m args below meth c (MQ below (gm_Q cf ad gm_sM 17 (some (.int r)) S) args s 0 0 (gm_A ad 17)) cf ad gm_sM 17 7 S 52 [(0, .ref (ad 0)), (1, .int v1), (2, .int y2), (3, .int y3), (4, .int y4)] [.int x9] := by
            refine gm_istore (lv' := [(6, .int x9), (0, .ref (ad 0)), (1, .int v1), (2, .int y2), (3, .int y3), (4, .int y4)]) C dX11_askNext_52 (by decide) rfl ?_
            refine gm_iload C dX11_askNext_54 0 rfl ?_
            refine gm_iload_n C dX11_askNext_56 rfl 4 rfl ?_
            obtain ⟨x10, hx, hf⟩ := gm_bp1_s hf
            have key : gm_G p l e { frames := 6, cells := 0, slots := 0, locals := 141 } s m args below meth c (MQ below (gm_Q cf ad gm_sM 17 (some (.int r)) S) args s 0 0 (gm_A ad 17)) cf ad gm_sM 17 7 S 66 [(0, .ref (ad 0)), (1, .int v1), (3, .int y3), (4, .int y4), (6, .int x9)] [.int x10] := by
              refine gm_istore_n (lv' := [(2, .int x10), (0, .ref (ad 0)), (1, .int v1), (3, .int y3), (4, .int y4), (6, .int x9)]) C dX11_askNext_66 rfl (by decide) rfl ?_
              refine gm_iload C dX11_askNext_67 5 rfl ?_
              refine gm_iload_n C dX11_askNext_69 rfl 3 rfl ?_
              obtain ⟨x11, hx, hf⟩ := gm_bp1_s hf
              have key : gm_G p l e { frames := 6, cells := 0, slots := 0, locals := 141 } s m args below meth c (MQ below (gm_Q cf ad gm_sM 17 (some (.int r)) S) args s 0 0 (gm_A ad 17)) cf ad gm_sM 17 7 S 79 [(0, .ref (ad 0)), (1, .int v1), (2, .int x10), (4, .int y4)] [.int x11] := by
                refine gm_istore_n (lv' := [(3, .int x11), (0, .ref (ad 0)), (1, .int v1), (2, .int x10), (4, .int y4)]) C dX11_askNext_79 rfl (by decide) rfl ?_
                obtain ⟨x12, ex12, hf⟩ := gm_lt_s hf
                refine gm_iinc (v := x12) (lv' := [(4, .int x12), (3, .int x11), (0, .ref (ad 0)), (1, .int v1), (2, .int x10)]) (j := 4) C dX11_askNext_80 rfl (by rw [ex12]; rfl) (by decide) rfl ?_
                refine gm_goto C 12 dX11_askNext_83 (by decide) ?_
                exact gm_lvp [2, 3, 4, 1, 0] rfl (ih _ _ _ _ hf K)
              have hf := hx
              refine gm_icmp_ge C 78 dX11_askNext_70 (by decide) (fun c13 => ?_) (fun c13 => ?_)
              · have hf := gm_it _ c13 hf
                refine gm_iload_n C dX11_askNext_78 rfl 3 rfl ?_
                cases hf
                exact gm_lvp [1, 2, 0, 4] rfl key
              · have hf := gm_if _ c13 hf
                refine gm_iload C dX11_askNext_73 5 rfl ?_
                refine gm_goto C 79 dX11_askNext_75 (by decide) ?_
                cases hf
                exact gm_lvp [1, 2, 0, 4] rfl key
            have hf := hx
            refine gm_icmp_ge C 65 dX11_askNext_57 (by decide) (fun c14 => ?_) (fun c14 => ?_)
            · have hf := gm_it _ c14 hf
              refine gm_iload_n C dX11_askNext_65 rfl 3 rfl ?_
              cases hf
              exact gm_lvp [1, 2, 4, 5, 0] rfl key
            · have hf := gm_if _ c14 hf
              refine gm_iload C dX11_askNext_60 5 rfl ?_
              refine gm_goto C 66 dX11_askNext_62 (by decide) ?_
              cases hf
              exact gm_lvp [1, 2, 4, 5, 0] rfl key
          have hf := hx
          refine gm_icmp_le C 48 dX11_askNext_40 (by decide) (fun c15 => ?_) (fun c15 => ?_)
          · have hf := gm_it _ c15 hf
            refine gm_iload_n C dX11_askNext_48 rfl 2 rfl ?_
            refine gm_iload C dX11_askNext_49 0 rfl ?_
            refine gm_isub C dX11_askNext_51 ?_
            cases hf
            exact gm_lvp [1, 2, 3, 4, 5] rfl key
          · have hf := gm_if _ c15 hf
            refine gm_iload C dX11_askNext_43 0 rfl ?_
            refine gm_goto C 52 dX11_askNext_45 (by decide) ?_
            cases hf
            exact gm_lvp [1, 2, 3, 4, 5] rfl key
  obtain ⟨z5, hx, hf⟩ := gm_bp1_s hf
  refine gm_lvp [4, 3, 2, 1, 0] rfl (L12 fl _ _ _ _ hx ?_)
  refine gm_iload_n C dX11_askNext_86 rfl 0 rfl ?_
  exact gm_iretK C hr rfl dX11_askNext_87 hf
theorem dX11_told_0 : decode cX11_told 0 = .ok (.iload_n 1, 1) := by decide +kernel
theorem dX11_told_1 : decode cX11_told 1 = .ok (.tableswitch 155 0 14 #[75, 80, 87, 92, 97, 102, 107, 115, 120, 125, 130, 135, 140, 145, 150], 75) := by decide +kernel
theorem dX11_told_76 : decode cX11_told 76 = .ok (.aload_n 0, 1) := by decide +kernel
theorem dX11_told_77 : decode cX11_told 77 = .ok (.getfield 63, 3) := by decide +kernel
theorem dX11_told_80 : decode cX11_told 80 = .ok (.ireturn, 1) := by decide +kernel
theorem dX11_told_81 : decode cX11_told 81 = .ok (.aload_n 0, 1) := by decide +kernel
theorem dX11_told_82 : decode cX11_told 82 = .ok (.getfield 13, 3) := by decide +kernel
theorem dX11_told_85 : decode cX11_told 85 = .ok (.iconst 0, 1) := by decide +kernel
theorem dX11_told_86 : decode cX11_told 86 = .ok (.iaload, 1) := by decide +kernel
theorem dX11_told_87 : decode cX11_told 87 = .ok (.ireturn, 1) := by decide +kernel
theorem dX11_told_88 : decode cX11_told 88 = .ok (.aload_n 0, 1) := by decide +kernel
theorem dX11_told_89 : decode cX11_told 89 = .ok (.getfield 66, 3) := by decide +kernel
theorem dX11_told_92 : decode cX11_told 92 = .ok (.ireturn, 1) := by decide +kernel
theorem dX11_told_93 : decode cX11_told 93 = .ok (.aload_n 0, 1) := by decide +kernel
theorem dX11_told_94 : decode cX11_told 94 = .ok (.getfield 73, 3) := by decide +kernel
theorem dX11_told_97 : decode cX11_told 97 = .ok (.ireturn, 1) := by decide +kernel
theorem dX11_told_98 : decode cX11_told 98 = .ok (.aload_n 0, 1) := by decide +kernel
theorem dX11_told_99 : decode cX11_told 99 = .ok (.getfield 76, 3) := by decide +kernel
theorem dX11_told_102 : decode cX11_told 102 = .ok (.ireturn, 1) := by decide +kernel
theorem dX11_told_103 : decode cX11_told 103 = .ok (.aload_n 0, 1) := by decide +kernel
theorem dX11_told_104 : decode cX11_told 104 = .ok (.getfield 97, 3) := by decide +kernel
theorem dX11_told_107 : decode cX11_told 107 = .ok (.ireturn, 1) := by decide +kernel
theorem dX11_told_108 : decode cX11_told 108 = .ok (.aload_n 0, 1) := by decide +kernel
theorem dX11_told_109 : decode cX11_told 109 = .ok (.getfield 13, 3) := by decide +kernel
theorem dX11_told_112 : decode cX11_told 112 = .ok (.bipush 41, 2) := by decide +kernel
theorem dX11_told_114 : decode cX11_told 114 = .ok (.iaload, 1) := by decide +kernel
theorem dX11_told_115 : decode cX11_told 115 = .ok (.ireturn, 1) := by decide +kernel
theorem dX11_told_116 : decode cX11_told 116 = .ok (.aload_n 0, 1) := by decide +kernel
theorem dX11_told_117 : decode cX11_told 117 = .ok (.invokevirtual 233, 3) := by decide +kernel
theorem dX11_told_120 : decode cX11_told 120 = .ok (.ireturn, 1) := by decide +kernel
theorem dX11_told_121 : decode cX11_told 121 = .ok (.aload_n 0, 1) := by decide +kernel
theorem dX11_told_122 : decode cX11_told 122 = .ok (.invokevirtual 236, 3) := by decide +kernel
theorem dX11_told_125 : decode cX11_told 125 = .ok (.ireturn, 1) := by decide +kernel
theorem dX11_told_126 : decode cX11_told 126 = .ok (.aload_n 0, 1) := by decide +kernel
theorem dX11_told_127 : decode cX11_told 127 = .ok (.invokevirtual 239, 3) := by decide +kernel
theorem dX11_told_130 : decode cX11_told 130 = .ok (.ireturn, 1) := by decide +kernel
theorem dX11_told_131 : decode cX11_told 131 = .ok (.aload_n 0, 1) := by decide +kernel
theorem dX11_told_132 : decode cX11_told 132 = .ok (.getfield 185, 3) := by decide +kernel
theorem dX11_told_135 : decode cX11_told 135 = .ok (.ireturn, 1) := by decide +kernel
theorem dX11_told_136 : decode cX11_told 136 = .ok (.aload_n 0, 1) := by decide +kernel
theorem dX11_told_137 : decode cX11_told 137 = .ok (.invokevirtual 242, 3) := by decide +kernel
theorem dX11_told_140 : decode cX11_told 140 = .ok (.ireturn, 1) := by decide +kernel
theorem dX11_told_141 : decode cX11_told 141 = .ok (.aload_n 0, 1) := by decide +kernel
theorem dX11_told_142 : decode cX11_told 142 = .ok (.invokevirtual 245, 3) := by decide +kernel
theorem dX11_told_145 : decode cX11_told 145 = .ok (.ireturn, 1) := by decide +kernel
theorem dX11_told_146 : decode cX11_told 146 = .ok (.aload_n 0, 1) := by decide +kernel
theorem dX11_told_147 : decode cX11_told 147 = .ok (.getfield 188, 3) := by decide +kernel
theorem dX11_told_150 : decode cX11_told 150 = .ok (.ireturn, 1) := by decide +kernel
theorem dX11_told_151 : decode cX11_told 151 = .ok (.aload_n 0, 1) := by decide +kernel
theorem dX11_told_152 : decode cX11_told 152 = .ok (.getfield 191, 3) := by decide +kernel
theorem dX11_told_155 : decode cX11_told 155 = .ok (.ireturn, 1) := by decide +kernel
theorem dX11_told_156 : decode cX11_told 156 = .ok (.ldc 96, 2) := by decide +kernel
theorem dX11_told_158 : decode cX11_told 158 = .ok (.ireturn, 1) := by decide +kernel
def Mo_told (fl : Nat) (a0 : Int32) (S : gm_M) : Option Int32 :=
  if a0 = 0 then (
    some (S.1 0 0)
  ) else (
  if a0 = 1 then (
    gm_ck (0) 42 <|
    some (S.1 2 (0 : Int32).toNatClampNeg)
  ) else (
  if a0 = 2 then (
    some (S.1 0 2)
  ) else (
  if a0 = 3 then (
    some (S.1 0 3)
  ) else (
  if a0 = 4 then (
    some (S.1 0 4)
  ) else (
  if a0 = 5 then (
    some (S.1 0 9)
  ) else (
  if a0 = 6 then (
    gm_ck (41) 42 <|
    some (S.1 2 (41 : Int32).toNatClampNeg)
  ) else (
  if a0 = 7 then (
    gm_bp1 (Mo_allLucky fl S) fun v11 =>
    some (v11)
  ) else (
  if a0 = 8 then (
    gm_bp1 (Mo_bestRoll fl S) fun v13 =>
    some (v13)
  ) else (
  if a0 = 9 then (
    gm_bp1 (Mo_luckiest fl S) fun v15 =>
    some (v15)
  ) else (
  if a0 = 10 then (
    some (S.1 0 29)
  ) else (
  if a0 = 11 then (
    gm_bp1 (Mo_manyCould fl S) fun v18 =>
    some (v18)
  ) else (
  if a0 = 12 then (
    gm_bp1 (Mo_askNext fl S) fun v20 =>
    some (v20)
  ) else (
  if a0 = 13 then (
    some (S.1 0 32)
  ) else (
  if a0 = 14 then (
    some (S.1 0 27)
  ) else (
    some ((-1000000002))
  )))))))))))))))
set_option maxHeartbeats 4000000 in
set_option maxRecDepth 100000 in
theorem Mo_told_c (l : Launch) (cf : gm_C) (ad : Nat → Nat) {fl : Nat}   {a0 : Int32} {S : gm_M} {r : Int32}  (hf : Mo_told fl a0 S = some r) : gm_Met l yX11_told cX11_told 2 (some .int) 8 188 cf ad gm_sM 17 [.ref (ad 0), .int a0] S (some (.int r)) S := by
  refine gm_met (by decide +kernel) (Nat.le_of_ble_eq_true rfl) ?_
  intro p e s m args below meth c C hr
  have C : gm_F p s m args meth c cf ad 17 cX11_told 2 RX11 := C
  refine gm_lve (lv' := [(0, .ref (ad 0)), (1, .int a0)]) rfl ?_
  unfold Mo_told at hf
  refine gm_iload_n C dX11_told_0 rfl 1 rfl ?_
  by_cases c1 : a0 = 0
  · have hf := gm_it _ c1 hf
    refine gm_tableIn C 76 dX11_told_1 (by rw [c1]; decide) (by rw [c1]; decide) (by rw [c1]; rfl) (by decide) ?_
    refine gm_aload_n C dX11_told_76 rfl 0 rfl ?_
    refine gm_geti C (Nat.le_of_ble_eq_true rfl) rfl kc_11 (k := 0) rfl (by decide) rfl wl_840 dX11_told_77 ?_
    exact gm_iretK C hr rfl dX11_told_80 hf
  · have hf := gm_if _ c1 hf
    by_cases c2 : a0 = 1
    · have hf := gm_it _ c2 hf
      refine gm_tableIn C 81 dX11_told_1 (by rw [c2]; decide) (by rw [c2]; decide) (by rw [c2]; rfl) (by decide) ?_
      refine gm_aload_n C dX11_told_81 rfl 0 rfl ?_
      refine gm_getr (j := 2) (u := 2) C (Nat.le_of_ble_eq_true rfl) rfl kc_11 (k := 6) rfl (by decide) rfl rfl wl_846 dX11_told_82 ?_
      refine gm_iconst (v := 0) C dX11_told_85 (by decide) ?_
      obtain ⟨h3, hf⟩ := gm_ck_s hf
      refine gm_iald C (Nat.le_of_ble_eq_true rfl) rfl rfl h3 dX11_told_86 ?_
      exact gm_iretK C hr rfl dX11_told_87 hf
    · have hf := gm_if _ c2 hf
      by_cases c4 : a0 = 2
      · have hf := gm_it _ c4 hf
        refine gm_tableIn C 88 dX11_told_1 (by rw [c4]; decide) (by rw [c4]; decide) (by rw [c4]; rfl) (by decide) ?_
        refine gm_aload_n C dX11_told_88 rfl 0 rfl ?_
        refine gm_geti C (Nat.le_of_ble_eq_true rfl) rfl kc_11 (k := 2) rfl (by decide) rfl wl_842 dX11_told_89 ?_
        exact gm_iretK C hr rfl dX11_told_92 hf
      · have hf := gm_if _ c4 hf
        by_cases c5 : a0 = 3
        · have hf := gm_it _ c5 hf
          refine gm_tableIn C 93 dX11_told_1 (by rw [c5]; decide) (by rw [c5]; decide) (by rw [c5]; rfl) (by decide) ?_
          refine gm_aload_n C dX11_told_93 rfl 0 rfl ?_
          refine gm_geti C (Nat.le_of_ble_eq_true rfl) rfl kc_11 (k := 3) rfl (by decide) rfl wl_843 dX11_told_94 ?_
          exact gm_iretK C hr rfl dX11_told_97 hf
        · have hf := gm_if _ c5 hf
          by_cases c6 : a0 = 4
          · have hf := gm_it _ c6 hf
            refine gm_tableIn C 98 dX11_told_1 (by rw [c6]; decide) (by rw [c6]; decide) (by rw [c6]; rfl) (by decide) ?_
            refine gm_aload_n C dX11_told_98 rfl 0 rfl ?_
            refine gm_geti C (Nat.le_of_ble_eq_true rfl) rfl kc_11 (k := 4) rfl (by decide) rfl wl_844 dX11_told_99 ?_
            exact gm_iretK C hr rfl dX11_told_102 hf
          · have hf := gm_if _ c6 hf
            by_cases c7 : a0 = 5
            · have hf := gm_it _ c7 hf
              refine gm_tableIn C 103 dX11_told_1 (by rw [c7]; decide) (by rw [c7]; decide) (by rw [c7]; rfl) (by decide) ?_
              refine gm_aload_n C dX11_told_103 rfl 0 rfl ?_
              refine gm_geti C (Nat.le_of_ble_eq_true rfl) rfl kc_11 (k := 9) rfl (by decide) rfl wl_849 dX11_told_104 ?_
              exact gm_iretK C hr rfl dX11_told_107 hf
            · have hf := gm_if _ c7 hf
              by_cases c8 : a0 = 6
              · have hf := gm_it _ c8 hf
                refine gm_tableIn C 108 dX11_told_1 (by rw [c8]; decide) (by rw [c8]; decide) (by rw [c8]; rfl) (by decide) ?_
                refine gm_aload_n C dX11_told_108 rfl 0 rfl ?_
                refine gm_getr (j := 2) (u := 2) C (Nat.le_of_ble_eq_true rfl) rfl kc_11 (k := 6) rfl (by decide) rfl rfl wl_846 dX11_told_109 ?_
                refine gm_bipush (v := 41) C dX11_told_112 (by decide) ?_
                obtain ⟨h9, hf⟩ := gm_ck_s hf
                refine gm_iald C (Nat.le_of_ble_eq_true rfl) rfl rfl h9 dX11_told_114 ?_
                exact gm_iretK C hr rfl dX11_told_115 hf
              · have hf := gm_if _ c8 hf
                by_cases c10 : a0 = 7
                · have hf := gm_it _ c10 hf
                  refine gm_tableIn C 116 dX11_told_1 (by rw [c10]; decide) (by rw [c10]; decide) (by rw [c10]; rfl) (by decide) ?_
                  refine gm_aload_n C dX11_told_116 rfl 0 rfl ?_
                  obtain ⟨v11, ev11, hf⟩ := gm_bp1_s hf
                  refine gm_callVi (As := []) C (Mo_allLucky_c l cf ad ev11) (Nat.le_of_ble_eq_true rfl) rfl kc_11 wy_Mo_allLucky rfl wl_1038 rfl ⟨(Nat.le_of_ble_eq_true rfl), (Nat.le_of_ble_eq_true rfl)⟩ rfl (Nat.le_of_ble_eq_true rfl) dX11_told_117 ?_
                  exact gm_iretK C hr rfl dX11_told_120 hf
                · have hf := gm_if _ c10 hf
                  by_cases c12 : a0 = 8
                  · have hf := gm_it _ c12 hf
                    refine gm_tableIn C 121 dX11_told_1 (by rw [c12]; decide) (by rw [c12]; decide) (by rw [c12]; rfl) (by decide) ?_
                    refine gm_aload_n C dX11_told_121 rfl 0 rfl ?_
                    obtain ⟨v13, ev13, hf⟩ := gm_bp1_s hf
                    refine gm_callVi (As := []) C (Mo_bestRoll_c l cf ad ev13) (Nat.le_of_ble_eq_true rfl) rfl kc_11 wy_Mo_bestRoll rfl wl_1078 rfl ⟨(Nat.le_of_ble_eq_true rfl), (Nat.le_of_ble_eq_true rfl)⟩ rfl (Nat.le_of_ble_eq_true rfl) dX11_told_122 ?_
                    exact gm_iretK C hr rfl dX11_told_125 hf
                  · have hf := gm_if _ c12 hf
                    by_cases c14 : a0 = 9
                    · have hf := gm_it _ c14 hf
                      refine gm_tableIn C 126 dX11_told_1 (by rw [c14]; decide) (by rw [c14]; decide) (by rw [c14]; rfl) (by decide) ?_
                      refine gm_aload_n C dX11_told_126 rfl 0 rfl ?_
                      obtain ⟨v15, ev15, hf⟩ := gm_bp1_s hf
                      refine gm_callVi (As := []) C (Mo_luckiest_c l cf ad ev15) (Nat.le_of_ble_eq_true rfl) rfl kc_11 wy_Mo_luckiest rfl wl_1090 rfl ⟨(Nat.le_of_ble_eq_true rfl), (Nat.le_of_ble_eq_true rfl)⟩ rfl (Nat.le_of_ble_eq_true rfl) dX11_told_127 ?_
                      exact gm_iretK C hr rfl dX11_told_130 hf
                    · have hf := gm_if _ c14 hf
                      by_cases c16 : a0 = 10
                      · have hf := gm_it _ c16 hf
                        refine gm_tableIn C 131 dX11_told_1 (by rw [c16]; decide) (by rw [c16]; decide) (by rw [c16]; rfl) (by decide) ?_
                        refine gm_aload_n C dX11_told_131 rfl 0 rfl ?_
                        refine gm_geti C (Nat.le_of_ble_eq_true rfl) rfl kc_11 (k := 29) rfl (by decide) rfl wl_869 dX11_told_132 ?_
                        exact gm_iretK C hr rfl dX11_told_135 hf
                      · have hf := gm_if _ c16 hf
                        by_cases c17 : a0 = 11
                        · have hf := gm_it _ c17 hf
                          refine gm_tableIn C 136 dX11_told_1 (by rw [c17]; decide) (by rw [c17]; decide) (by rw [c17]; rfl) (by decide) ?_
                          refine gm_aload_n C dX11_told_136 rfl 0 rfl ?_
                          obtain ⟨v18, ev18, hf⟩ := gm_bp1_s hf
                          refine gm_callVi (As := []) C (Mo_manyCould_c l cf ad ev18) (Nat.le_of_ble_eq_true rfl) rfl kc_11 wy_Mo_manyCould rfl wl_1094 rfl ⟨(Nat.le_of_ble_eq_true rfl), (Nat.le_of_ble_eq_true rfl)⟩ rfl (Nat.le_of_ble_eq_true rfl) dX11_told_137 ?_
                          exact gm_iretK C hr rfl dX11_told_140 hf
                        · have hf := gm_if _ c17 hf
                          by_cases c19 : a0 = 12
                          · have hf := gm_it _ c19 hf
                            refine gm_tableIn C 141 dX11_told_1 (by rw [c19]; decide) (by rw [c19]; decide) (by rw [c19]; rfl) (by decide) ?_
                            refine gm_aload_n C dX11_told_141 rfl 0 rfl ?_
                            obtain ⟨v20, ev20, hf⟩ := gm_bp1_s hf
                            refine gm_callVi (As := []) C (Mo_askNext_c l cf ad ev20) (Nat.le_of_ble_eq_true rfl) rfl kc_11 wy_Mo_askNext rfl wl_1118 rfl ⟨(Nat.le_of_ble_eq_true rfl), (Nat.le_of_ble_eq_true rfl)⟩ rfl (Nat.le_of_ble_eq_true rfl) dX11_told_142 ?_
                            exact gm_iretK C hr rfl dX11_told_145 hf
                          · have hf := gm_if _ c19 hf
                            by_cases c21 : a0 = 13
                            · have hf := gm_it _ c21 hf
                              refine gm_tableIn C 146 dX11_told_1 (by rw [c21]; decide) (by rw [c21]; decide) (by rw [c21]; rfl) (by decide) ?_
                              refine gm_aload_n C dX11_told_146 rfl 0 rfl ?_
                              refine gm_geti C (Nat.le_of_ble_eq_true rfl) rfl kc_11 (k := 32) rfl (by decide) rfl wl_872 dX11_told_147 ?_
                              exact gm_iretK C hr rfl dX11_told_150 hf
                            · have hf := gm_if _ c21 hf
                              by_cases c22 : a0 = 14
                              · have hf := gm_it _ c22 hf
                                refine gm_tableIn C 151 dX11_told_1 (by rw [c22]; decide) (by rw [c22]; decide) (by rw [c22]; rfl) (by decide) ?_
                                refine gm_aload_n C dX11_told_151 rfl 0 rfl ?_
                                refine gm_geti C (Nat.le_of_ble_eq_true rfl) rfl kc_11 (k := 27) rfl (by decide) rfl wl_867 dX11_told_152 ?_
                                exact gm_iretK C hr rfl dX11_told_155 hf
                              · have hf := gm_if _ c22 hf
                                have nc1 : (a0).toInt ≠ 0 := gm_nt c1
                                have nc2 : (a0).toInt ≠ 1 := gm_nt c2
                                have nc4 : (a0).toInt ≠ 2 := gm_nt c4
                                have nc5 : (a0).toInt ≠ 3 := gm_nt c5
                                have nc6 : (a0).toInt ≠ 4 := gm_nt c6
                                have nc7 : (a0).toInt ≠ 5 := gm_nt c7
                                have nc8 : (a0).toInt ≠ 6 := gm_nt c8
                                have nc10 : (a0).toInt ≠ 7 := gm_nt c10
                                have nc12 : (a0).toInt ≠ 8 := gm_nt c12
                                have nc14 : (a0).toInt ≠ 9 := gm_nt c14
                                have nc16 : (a0).toInt ≠ 10 := gm_nt c16
                                have nc17 : (a0).toInt ≠ 11 := gm_nt c17
                                have nc19 : (a0).toInt ≠ 12 := gm_nt c19
                                have nc21 : (a0).toInt ≠ 13 := gm_nt c21
                                have nc22 : (a0).toInt ≠ 14 := gm_nt c22
                                refine gm_tableOut C 156 dX11_told_1 (by omega) (by decide) ?_
                                refine gm_ldc (v := (-1000000002)) C wl_960 dX11_told_156 ?_
                                exact gm_iretK C hr rfl dX11_told_158 hf
theorem dX11_isRule_0 : decode cX11_isRule 0 = .ok (.iload_n 1, 1) := by decide +kernel
theorem dX11_isRule_1 : decode cX11_isRule 1 = .ok (.i2l, 1) := by decide +kernel
theorem dX11_isRule_2 : decode cX11_isRule 2 = .ok (.lconst 0, 1) := by decide +kernel
theorem dX11_isRule_3 : decode cX11_isRule 3 = .ok (.aload_n 0, 1) := by decide +kernel
theorem dX11_isRule_4 : decode cX11_isRule 4 = .ok (.getfield 66, 3) := by decide +kernel
theorem dX11_isRule_7 : decode cX11_isRule 7 = .ok (.iconst 1, 1) := by decide +kernel
theorem dX11_isRule_8 : decode cX11_isRule 8 = .ok (.isub, 1) := by decide +kernel
theorem dX11_isRule_9 : decode cX11_isRule 9 = .ok (.i2l, 1) := by decide +kernel
theorem dX11_isRule_10 : decode cX11_isRule 10 = .ok (.invokestatic 69, 3) := by decide +kernel
theorem dX11_isRule_13 : decode cX11_isRule 13 = .ok (.ireturn, 1) := by decide +kernel
def Mo_isRule (a0 : Int32) (S : gm_M) : Option Int32 :=
  gm_bp1 (Mo_in ((a0 : Int32).toInt64) 0 (((S.1 0 2) - 1 : Int32).toInt64)) fun v1 =>
  if vp_nar .boolean v1 = v1 then (some v1) else none
set_option maxHeartbeats 4000000 in
set_option maxRecDepth 100000 in
theorem Mo_isRule_c (l : Launch) (cf : gm_C) (ad : Nat → Nat)    {a0 : Int32} {S : gm_M} {r : Int32}  (hf : Mo_isRule a0 S = some r) : gm_Met l yX11_isRule cX11_isRule 2 (some .boolean) 1 25 cf ad gm_sM 17 [.ref (ad 0), .int a0] S (some (.int r)) S := by
  refine gm_met (by decide +kernel) (Nat.le_of_ble_eq_true rfl) ?_
  intro p e s m args below meth c C hr
  have C : gm_F p s m args meth c cf ad 17 cX11_isRule 2 RX11 := C
  refine gm_lve (lv' := [(0, .ref (ad 0)), (1, .int a0)]) rfl ?_
  unfold Mo_isRule at hf
  refine gm_iload_n C dX11_isRule_0 rfl 1 rfl ?_
  refine gm_i2l C dX11_isRule_1 rfl ?_
  refine gm_lconst (v := 0) C dX11_isRule_2 (by decide) ?_
  refine gm_aload_n C dX11_isRule_3 rfl 0 rfl ?_
  refine gm_geti C (Nat.le_of_ble_eq_true rfl) rfl kc_11 (k := 2) rfl (by decide) rfl wl_842 dX11_isRule_4 ?_
  refine gm_iconst (v := 1) C dX11_isRule_7 (by decide) ?_
  refine gm_isub C dX11_isRule_8 ?_
  refine gm_i2l C dX11_isRule_9 rfl ?_
  obtain ⟨v1, ev1, hf⟩ := gm_bp1_s hf
  refine gm_callSi (As := [.long ((a0 : Int32).toInt64), .long 0, .long (((S.1 0 2) - 1 : Int32).toInt64)]) C (Mo_in_c l cf ad ev1 (S := S)) wy_Mo_in wl_957 rfl ⟨(Nat.le_of_ble_eq_true rfl), (Nat.le_of_ble_eq_true rfl)⟩ rfl (Nat.le_of_ble_eq_true rfl) dX11_isRule_10 ?_
  obtain ⟨h2, hf⟩ := gm_in _ hf
  exact gm_iretK C hr (gm_zb h2) dX11_isRule_13 hf
theorem dX11_ruleOf_0 : decode cX11_ruleOf 0 = .ok (.aload_n 0, 1) := by decide +kernel
theorem dX11_ruleOf_1 : decode cX11_ruleOf 1 = .ok (.iload_n 1, 1) := by decide +kernel
theorem dX11_ruleOf_2 : decode cX11_ruleOf 2 = .ok (.invokevirtual 248, 3) := by decide +kernel
theorem dX11_ruleOf_5 : decode cX11_ruleOf 5 = .ok (.ifCond .ne 6, 3) := by decide +kernel
theorem dX11_ruleOf_8 : decode cX11_ruleOf 8 = .ok (.ldc 251, 2) := by decide +kernel
theorem dX11_ruleOf_10 : decode cX11_ruleOf 10 = .ok (.ireturn, 1) := by decide +kernel
theorem dX11_ruleOf_11 : decode cX11_ruleOf 11 = .ok (.iload_n 2, 1) := by decide +kernel
theorem dX11_ruleOf_12 : decode cX11_ruleOf 12 = .ok (.tableswitch 79 0 3 #[32, 41, 50, 60], 32) := by decide +kernel
theorem dX11_ruleOf_44 : decode cX11_ruleOf 44 = .ok (.aload_n 0, 1) := by decide +kernel
theorem dX11_ruleOf_45 : decode cX11_ruleOf 45 = .ok (.getfield 13, 3) := by decide +kernel
theorem dX11_ruleOf_48 : decode cX11_ruleOf 48 = .ok (.iconst 1, 1) := by decide +kernel
theorem dX11_ruleOf_49 : decode cX11_ruleOf 49 = .ok (.iload_n 1, 1) := by decide +kernel
theorem dX11_ruleOf_50 : decode cX11_ruleOf 50 = .ok (.iadd, 1) := by decide +kernel
theorem dX11_ruleOf_51 : decode cX11_ruleOf 51 = .ok (.iaload, 1) := by decide +kernel
theorem dX11_ruleOf_52 : decode cX11_ruleOf 52 = .ok (.ireturn, 1) := by decide +kernel
theorem dX11_ruleOf_53 : decode cX11_ruleOf 53 = .ok (.aload_n 0, 1) := by decide +kernel
theorem dX11_ruleOf_54 : decode cX11_ruleOf 54 = .ok (.getfield 13, 3) := by decide +kernel
theorem dX11_ruleOf_57 : decode cX11_ruleOf 57 = .ok (.iconst 5, 1) := by decide +kernel
theorem dX11_ruleOf_58 : decode cX11_ruleOf 58 = .ok (.iload_n 1, 1) := by decide +kernel
theorem dX11_ruleOf_59 : decode cX11_ruleOf 59 = .ok (.iadd, 1) := by decide +kernel
theorem dX11_ruleOf_60 : decode cX11_ruleOf 60 = .ok (.iaload, 1) := by decide +kernel
theorem dX11_ruleOf_61 : decode cX11_ruleOf 61 = .ok (.ireturn, 1) := by decide +kernel
theorem dX11_ruleOf_62 : decode cX11_ruleOf 62 = .ok (.aload_n 0, 1) := by decide +kernel
theorem dX11_ruleOf_63 : decode cX11_ruleOf 63 = .ok (.getfield 13, 3) := by decide +kernel
theorem dX11_ruleOf_66 : decode cX11_ruleOf 66 = .ok (.bipush 9, 2) := by decide +kernel
theorem dX11_ruleOf_68 : decode cX11_ruleOf 68 = .ok (.iload_n 1, 1) := by decide +kernel
theorem dX11_ruleOf_69 : decode cX11_ruleOf 69 = .ok (.iadd, 1) := by decide +kernel
theorem dX11_ruleOf_70 : decode cX11_ruleOf 70 = .ok (.iaload, 1) := by decide +kernel
theorem dX11_ruleOf_71 : decode cX11_ruleOf 71 = .ok (.ireturn, 1) := by decide +kernel
theorem dX11_ruleOf_72 : decode cX11_ruleOf 72 = .ok (.ldc 122, 2) := by decide +kernel
theorem dX11_ruleOf_74 : decode cX11_ruleOf 74 = .ok (.aload_n 0, 1) := by decide +kernel
theorem dX11_ruleOf_75 : decode cX11_ruleOf 75 = .ok (.iload_n 1, 1) := by decide +kernel
theorem dX11_ruleOf_76 : decode cX11_ruleOf 76 = .ok (.iconst 0, 1) := by decide +kernel
theorem dX11_ruleOf_77 : decode cX11_ruleOf 77 = .ok (.aload_n 0, 1) := by decide +kernel
theorem dX11_ruleOf_78 : decode cX11_ruleOf 78 = .ok (.getfield 79, 3) := by decide +kernel
theorem dX11_ruleOf_81 : decode cX11_ruleOf 81 = .ok (.invokevirtual 220, 3) := by decide +kernel
theorem dX11_ruleOf_84 : decode cX11_ruleOf 84 = .ok (.iadd, 1) := by decide +kernel
theorem dX11_ruleOf_85 : decode cX11_ruleOf 85 = .ok (.aload_n 0, 1) := by decide +kernel
theorem dX11_ruleOf_86 : decode cX11_ruleOf 86 = .ok (.invokevirtual 233, 3) := by decide +kernel
theorem dX11_ruleOf_89 : decode cX11_ruleOf 89 = .ok (.isub, 1) := by decide +kernel
theorem dX11_ruleOf_90 : decode cX11_ruleOf 90 = .ok (.ireturn, 1) := by decide +kernel
theorem dX11_ruleOf_91 : decode cX11_ruleOf 91 = .ok (.ldc 96, 2) := by decide +kernel
theorem dX11_ruleOf_93 : decode cX11_ruleOf 93 = .ok (.ireturn, 1) := by decide +kernel
def Mo_ruleOf (fl : Nat) (a0 : Int32) (a1 : Int32) (S : gm_M) : Option Int32 :=
  gm_bp1 (Mo_isRule a0 S) fun v1 =>
  if v1 = 0 then (
    some ((-1000000001))
  ) else (
    if a1 = 0 then (
      gm_ck (1 + a0) 42 <|
      some (S.1 2 (1 + a0).toNatClampNeg)
    ) else (
    if a1 = 1 then (
      gm_ck (5 + a0) 42 <|
      some (S.1 2 (5 + a0).toNatClampNeg)
    ) else (
    if a1 = 2 then (
      gm_ck (9 + a0) 42 <|
      some (S.1 2 (9 + a0).toNatClampNeg)
    ) else (
    if a1 = 3 then (
      gm_bp1 (Mo_manyBut fl a0 0 (S.1 0 1) S) fun v10 =>
      gm_bp1 (Mo_allLucky fl S) fun v11 =>
      some ((100000 + v10) - v11)
    ) else (
      some ((-1000000002))
    ))))
  )
set_option maxHeartbeats 4000000 in
set_option maxRecDepth 100000 in
theorem Mo_ruleOf_c (l : Launch) (cf : gm_C) (ad : Nat → Nat) {fl : Nat}   {a0 : Int32} {a1 : Int32} {S : gm_M} {r : Int32}  (hf : Mo_ruleOf fl a0 a1 S = some r) : gm_Met l yX11_ruleOf cX11_ruleOf 3 (some .int) 7 165 cf ad gm_sM 17 [.ref (ad 0), .int a0, .int a1] S (some (.int r)) S := by
  refine gm_met (by decide +kernel) (Nat.le_of_ble_eq_true rfl) ?_
  intro p e s m args below meth c C hr
  have C : gm_F p s m args meth c cf ad 17 cX11_ruleOf 3 RX11 := C
  refine gm_lve (lv' := [(0, .ref (ad 0)), (1, .int a0), (2, .int a1)]) rfl ?_
  unfold Mo_ruleOf at hf
  refine gm_aload_n C dX11_ruleOf_0 rfl 0 rfl ?_
  refine gm_iload_n C dX11_ruleOf_1 rfl 1 rfl ?_
  obtain ⟨v1, ev1, hf⟩ := gm_bp1_s hf
  refine gm_callVi (As := [.int a0]) C (Mo_isRule_c l cf ad ev1) (Nat.le_of_ble_eq_true rfl) rfl kc_11 wy_Mo_isRule rfl wl_1130 rfl ⟨(Nat.le_of_ble_eq_true rfl), (Nat.le_of_ble_eq_true rfl)⟩ rfl (Nat.le_of_ble_eq_true rfl) dX11_ruleOf_2 ?_
  refine gm_if_ne C 11 dX11_ruleOf_5 (by decide) (fun c2 => ?_) (fun c2 => ?_)
  · have hf := gm_if _ c2 hf
    refine gm_iload_n C dX11_ruleOf_11 rfl 2 rfl ?_
    by_cases c3 : a1 = 0
    · have hf := gm_it _ c3 hf
      refine gm_tableIn C 44 dX11_ruleOf_12 (by rw [c3]; decide) (by rw [c3]; decide) (by rw [c3]; rfl) (by decide) ?_
      refine gm_aload_n C dX11_ruleOf_44 rfl 0 rfl ?_
      refine gm_getr (j := 2) (u := 2) C (Nat.le_of_ble_eq_true rfl) rfl kc_11 (k := 6) rfl (by decide) rfl rfl wl_846 dX11_ruleOf_45 ?_
      refine gm_iconst (v := 1) C dX11_ruleOf_48 (by decide) ?_
      refine gm_iload_n C dX11_ruleOf_49 rfl 1 rfl ?_
      refine gm_iadd C dX11_ruleOf_50 ?_
      obtain ⟨h4, hf⟩ := gm_ck_s hf
      refine gm_iald C (Nat.le_of_ble_eq_true rfl) rfl rfl h4 dX11_ruleOf_51 ?_
      exact gm_iretK C hr rfl dX11_ruleOf_52 hf
    · have hf := gm_if _ c3 hf
      by_cases c5 : a1 = 1
      · have hf := gm_it _ c5 hf
        refine gm_tableIn C 53 dX11_ruleOf_12 (by rw [c5]; decide) (by rw [c5]; decide) (by rw [c5]; rfl) (by decide) ?_
        refine gm_aload_n C dX11_ruleOf_53 rfl 0 rfl ?_
        refine gm_getr (j := 2) (u := 2) C (Nat.le_of_ble_eq_true rfl) rfl kc_11 (k := 6) rfl (by decide) rfl rfl wl_846 dX11_ruleOf_54 ?_
        refine gm_iconst (v := 5) C dX11_ruleOf_57 (by decide) ?_
        refine gm_iload_n C dX11_ruleOf_58 rfl 1 rfl ?_
        refine gm_iadd C dX11_ruleOf_59 ?_
        obtain ⟨h6, hf⟩ := gm_ck_s hf
        refine gm_iald C (Nat.le_of_ble_eq_true rfl) rfl rfl h6 dX11_ruleOf_60 ?_
        exact gm_iretK C hr rfl dX11_ruleOf_61 hf
      · have hf := gm_if _ c5 hf
        by_cases c7 : a1 = 2
        · have hf := gm_it _ c7 hf
          refine gm_tableIn C 62 dX11_ruleOf_12 (by rw [c7]; decide) (by rw [c7]; decide) (by rw [c7]; rfl) (by decide) ?_
          refine gm_aload_n C dX11_ruleOf_62 rfl 0 rfl ?_
          refine gm_getr (j := 2) (u := 2) C (Nat.le_of_ble_eq_true rfl) rfl kc_11 (k := 6) rfl (by decide) rfl rfl wl_846 dX11_ruleOf_63 ?_
          refine gm_bipush (v := 9) C dX11_ruleOf_66 (by decide) ?_
          refine gm_iload_n C dX11_ruleOf_68 rfl 1 rfl ?_
          refine gm_iadd C dX11_ruleOf_69 ?_
          obtain ⟨h8, hf⟩ := gm_ck_s hf
          refine gm_iald C (Nat.le_of_ble_eq_true rfl) rfl rfl h8 dX11_ruleOf_70 ?_
          exact gm_iretK C hr rfl dX11_ruleOf_71 hf
        · have hf := gm_if _ c7 hf
          by_cases c9 : a1 = 3
          · have hf := gm_it _ c9 hf
            refine gm_tableIn C 72 dX11_ruleOf_12 (by rw [c9]; decide) (by rw [c9]; decide) (by rw [c9]; rfl) (by decide) ?_
            refine gm_ldc (v := 100000) C wl_996 dX11_ruleOf_72 ?_
            refine gm_aload_n C dX11_ruleOf_74 rfl 0 rfl ?_
            refine gm_iload_n C dX11_ruleOf_75 rfl 1 rfl ?_
            refine gm_iconst (v := 0) C dX11_ruleOf_76 (by decide) ?_
            refine gm_aload_n C dX11_ruleOf_77 rfl 0 rfl ?_
            refine gm_geti C (Nat.le_of_ble_eq_true rfl) rfl kc_11 (k := 1) rfl (by decide) rfl wl_841 dX11_ruleOf_78 ?_
            obtain ⟨v10, ev10, hf⟩ := gm_bp1_s hf
            refine gm_callVi (As := [.int a0, .int 0, .int (S.1 0 1)]) C (Mo_manyBut_c l cf ad ev10) (Nat.le_of_ble_eq_true rfl) rfl kc_11 wy_Mo_manyBut rfl wl_1042 rfl ⟨(Nat.le_of_ble_eq_true rfl), (Nat.le_of_ble_eq_true rfl)⟩ rfl (Nat.le_of_ble_eq_true rfl) dX11_ruleOf_81 ?_
            refine gm_iadd C dX11_ruleOf_84 ?_
            refine gm_aload_n C dX11_ruleOf_85 rfl 0 rfl ?_
            obtain ⟨v11, ev11, hf⟩ := gm_bp1_s hf
            refine gm_callVi (As := []) C (Mo_allLucky_c l cf ad ev11) (Nat.le_of_ble_eq_true rfl) rfl kc_11 wy_Mo_allLucky rfl wl_1038 rfl ⟨(Nat.le_of_ble_eq_true rfl), (Nat.le_of_ble_eq_true rfl)⟩ rfl (Nat.le_of_ble_eq_true rfl) dX11_ruleOf_86 ?_
            refine gm_isub C dX11_ruleOf_89 ?_
            exact gm_iretK C hr rfl dX11_ruleOf_90 hf
          · have hf := gm_if _ c9 hf
            have nc3 : (a1).toInt ≠ 0 := gm_nt c3
            have nc5 : (a1).toInt ≠ 1 := gm_nt c5
            have nc7 : (a1).toInt ≠ 2 := gm_nt c7
            have nc9 : (a1).toInt ≠ 3 := gm_nt c9
            refine gm_tableOut C 91 dX11_ruleOf_12 (by omega) (by decide) ?_
            refine gm_ldc (v := (-1000000002)) C wl_960 dX11_ruleOf_91 ?_
            exact gm_iretK C hr rfl dX11_ruleOf_93 hf
  · have hf := gm_it _ c2 hf
    refine gm_ldc (v := (-1000000001)) C wl_1134 dX11_ruleOf_8 ?_
    exact gm_iretK C hr rfl dX11_ruleOf_10 hf
