theorem dX1_greaterPart_0 : decode cX1_greaterPart 0 = .ok (.aload_n 0, 1) := by decide +kernel
theorem dX1_greaterPart_1 : decode cX1_greaterPart 1 = .ok (.getfield 20, 3) := by decide +kernel
theorem dX1_greaterPart_4 : decode cX1_greaterPart 4 = .ok (.iload_n 1, 1) := by decide +kernel
theorem dX1_greaterPart_5 : decode cX1_greaterPart 5 = .ok (.aload_n 0, 1) := by decide +kernel
theorem dX1_greaterPart_6 : decode cX1_greaterPart 6 = .ok (.getfield 28, 3) := by decide +kernel
theorem dX1_greaterPart_9 : decode cX1_greaterPart 9 = .ok (.invokevirtual 60, 3) := by decide +kernel
theorem dX1_greaterPart_12 : decode cX1_greaterPart 12 = .ok (.iconst 0, 1) := by decide +kernel
theorem dX1_greaterPart_13 : decode cX1_greaterPart 13 = .ok (.istore_n 2, 1) := by decide +kernel
theorem dX1_greaterPart_14 : decode cX1_greaterPart 14 = .ok (.iconst 0, 1) := by decide +kernel
theorem dX1_greaterPart_15 : decode cX1_greaterPart 15 = .ok (.istore_n 3, 1) := by decide +kernel
theorem dX1_greaterPart_16 : decode cX1_greaterPart 16 = .ok (.iload_n 3, 1) := by decide +kernel
theorem dX1_greaterPart_17 : decode cX1_greaterPart 17 = .ok (.aload_n 0, 1) := by decide +kernel
theorem dX1_greaterPart_18 : decode cX1_greaterPart 18 = .ok (.getfield 34, 3) := by decide +kernel
theorem dX1_greaterPart_21 : decode cX1_greaterPart 21 = .ok (.if_icmp .ge 28, 3) := by decide +kernel
theorem dX1_greaterPart_24 : decode cX1_greaterPart 24 = .ok (.aload_n 0, 1) := by decide +kernel
theorem dX1_greaterPart_25 : decode cX1_greaterPart 25 = .ok (.getfield 11, 3) := by decide +kernel
theorem dX1_greaterPart_28 : decode cX1_greaterPart 28 = .ok (.iload_n 3, 1) := by decide +kernel
theorem dX1_greaterPart_29 : decode cX1_greaterPart 29 = .ok (.iaload, 1) := by decide +kernel
theorem dX1_greaterPart_30 : decode cX1_greaterPart 30 = .ok (.aload_n 0, 1) := by decide +kernel
theorem dX1_greaterPart_31 : decode cX1_greaterPart 31 = .ok (.getfield 20, 3) := by decide +kernel
theorem dX1_greaterPart_34 : decode cX1_greaterPart 34 = .ok (.invokestatic 63, 3) := by decide +kernel
theorem dX1_greaterPart_37 : decode cX1_greaterPart 37 = .ok (.ifCond .eq 6, 3) := by decide +kernel
theorem dX1_greaterPart_40 : decode cX1_greaterPart 40 = .ok (.iinc 2 1, 3) := by decide +kernel
theorem dX1_greaterPart_43 : decode cX1_greaterPart 43 = .ok (.iinc 3 1, 3) := by decide +kernel
theorem dX1_greaterPart_46 : decode cX1_greaterPart 46 = .ok (.goto (-30), 3) := by decide +kernel
theorem dX1_greaterPart_49 : decode cX1_greaterPart 49 = .ok (.iload_n 2, 1) := by decide +kernel
theorem dX1_greaterPart_50 : decode cX1_greaterPart 50 = .ok (.aload_n 0, 1) := by decide +kernel
theorem dX1_greaterPart_51 : decode cX1_greaterPart 51 = .ok (.getfield 34, 3) := by decide +kernel
theorem dX1_greaterPart_54 : decode cX1_greaterPart 54 = .ok (.iload_n 2, 1) := by decide +kernel
theorem dX1_greaterPart_55 : decode cX1_greaterPart 55 = .ok (.isub, 1) := by decide +kernel
theorem dX1_greaterPart_56 : decode cX1_greaterPart 56 = .ok (.invokestatic 74, 3) := by decide +kernel
theorem dX1_greaterPart_59 : decode cX1_greaterPart 59 = .ok (.ireturn, 1) := by decide +kernel
def Gs_greaterPart_L16_b (fl : Nat) (S1 : gm_M) (rec : Int32 → Int32 → Option (Int32)) (y2 : Int32) (y3 : Int32) : Option (Int32) :=
  if S1.1 88 2 ≤ y3 then (
    some (y2)
  ) else (
    gm_ck (y3) 171 <|
    gm_bp1 (Ru_sayYes fl 90 (S1.1 89 y3.toNatClampNeg) S1) fun v7 =>
    gm_bp1 (show Option (Int32) from
      if v7 = 0 then (
        some (y2)
      ) else (
        gm_lt (α := Int32) (y2 + 1) fun x11 =>
        some (x11)
      )
    ) fun x8 =>
    gm_lt (α := Int32) (y3 + 1) fun x9 =>
    rec x8 x9
  )
def Gs_greaterPart_L16 (fl : Nat) (S1 : gm_M) : Nat → Int32 → Int32 → Option (Int32)
  | 0 => fun _ _ => none
  | n + 1 => Gs_greaterPart_L16_b fl S1 (Gs_greaterPart_L16 fl S1 n)
def Gs_greaterPart (fl : Nat) (a0 : Int32) (S : gm_M) : Option (Int32 × gm_M) :=
  gm_bp1 (Tk_spell fl 90 a0 (S.1 88 4) S) fun S1 =>
  gm_bp1 (Gs_greaterPart_L16 fl S1 fl 0 0) fun z4 =>
  gm_lt (α := Int32) (if z4 < (S1.1 88 2) - z4 then (S1.1 88 2) - z4 else z4) fun x12 =>
  some (x12, S1)
set_option maxHeartbeats 4000000 in
set_option maxRecDepth 100000 in
theorem Gs_greaterPart_c (l : Launch) (cf : gm_C) (ad : Nat → Nat) {fl : Nat}   {a0 : Int32} {S : gm_M} {r : Int32} {S'  : gm_M} (hf : Gs_greaterPart fl a0 S = some (r, S')) : gm_Met l yX1_greaterPart cX1_greaterPart 4 (some .int) 3 58 cf ad gm_sC 106 [.ref (ad 88), .int a0] S (some (.int r)) S' := by
  refine gm_met (by decide +kernel) (Nat.le_of_ble_eq_true rfl) ?_
  intro p e s m args below meth c C hr
  have C : gm_F p s m args meth c cf ad 106 cX1_greaterPart 4 RX1 := C
  refine gm_lve (lv' := [(0, .ref (ad 88)), (1, .int a0)]) rfl ?_
  unfold Gs_greaterPart at hf
  refine gm_aload_n C dX1_greaterPart_0 rfl 0 rfl ?_
  refine gm_getr (j := 2) (u := 90) C (Nat.le_of_ble_eq_true rfl) rfl kc_1 (k := 1) rfl (by decide) rfl rfl wl_265 dX1_greaterPart_1 ?_
  refine gm_iload_n C dX1_greaterPart_4 rfl 1 rfl ?_
  refine gm_aload_n C dX1_greaterPart_5 rfl 0 rfl ?_
  refine gm_geti C (Nat.le_of_ble_eq_true rfl) rfl kc_1 (k := 4) rfl (by decide) rfl wl_270 dX1_greaterPart_6 ?_
  obtain ⟨S1, eS1, hf⟩ := gm_bp1_s hf
  refine gm_callVv (As := [.int a0, .int (S.1 88 4)]) C (Tk_spell_c l cf ad gm_tk_90 eS1) (Nat.le_of_ble_eq_true rfl) rfl kc_8 wy_Tk_spell rfl wl_604 rfl ⟨(Nat.le_of_ble_eq_true rfl), (Nat.le_of_ble_eq_true rfl)⟩ rfl (Nat.le_of_ble_eq_true rfl) dX1_greaterPart_9 ?_
  refine gm_iconst (v := 0) C dX1_greaterPart_12 (by decide) ?_
  refine gm_istore_n (lv' := [(2, .int 0), (0, .ref (ad 88)), (1, .int a0)]) C dX1_greaterPart_13 rfl (by decide) rfl ?_
  refine gm_iconst (v := 0) C dX1_greaterPart_14 (by decide) ?_
  refine gm_istore_n (lv' := [(3, .int 0), (2, .int 0), (0, .ref (ad 88)), (1, .int a0)]) C dX1_greaterPart_15 rfl (by decide) rfl ?_
  have L16 : ∀ (n : Nat) (y2 : Int32) (y3 : Int32) (z4 : Int32), Gs_greaterPart_L16 fl S1 n y2 y3 = some (z4) → gm_G p l e { frames := 3, cells := 0, slots := 0, locals := 58 } s m args below meth c (MQ below (gm_Q cf ad gm_sC 106 (some (.int r)) S') args s 0 0 (gm_A ad 106)) cf ad gm_sC 106 4 S1 49 [(0, .ref (ad 88)), (2, .int z4)] [] → gm_G p l e { frames := 3, cells := 0, slots := 0, locals := 58 } s m args below meth c (MQ below (gm_Q cf ad gm_sC 106 (some (.int r)) S') args s 0 0 (gm_A ad 106)) cf ad gm_sC 106 4 S1 16 [(0, .ref (ad 88)), (2, .int y2), (3, .int y3)] [] := by
    intro n
    induction n with
    | zero => intro y2 y3 z4 hf K; cases (show (none : Option _) = some _ from hf)
    | succ n ih =>
      intro y2 y3 z4 hf K
      have hf : Gs_greaterPart_L16_b fl S1 (Gs_greaterPart_L16 fl S1 n) y2 y3 = some (z4) := hf
      unfold Gs_greaterPart_L16_b at hf
      refine gm_iload_n C dX1_greaterPart_16 rfl 2 rfl ?_
      refine gm_aload_n C dX1_greaterPart_17 rfl 0 rfl ?_
      refine gm_geti C (Nat.le_of_ble_eq_true rfl) rfl kc_1 (k := 2) rfl (by decide) rfl wl_266 dX1_greaterPart_18 ?_
      refine gm_icmp_ge C 49 dX1_greaterPart_21 (by decide) (fun c5 => ?_) (fun c5 => ?_)
      · have hf := gm_it _ c5 hf
        cases hf
        exact gm_lvp [0, 1] rfl K
      · have hf := gm_if _ c5 hf
        refine gm_aload_n C dX1_greaterPart_24 rfl 0 rfl ?_
        refine gm_getr (j := 1) (u := 89) C (Nat.le_of_ble_eq_true rfl) rfl kc_1 (k := 0) rfl (by decide) rfl rfl wl_263 dX1_greaterPart_25 ?_
        refine gm_iload_n C dX1_greaterPart_28 rfl 2 rfl ?_
        obtain ⟨h6, hf⟩ := gm_ck_s hf
        refine gm_iald C (Nat.le_of_ble_eq_true rfl) rfl rfl h6 dX1_greaterPart_29 ?_
        refine gm_aload_n C dX1_greaterPart_30 rfl 0 rfl ?_
        refine gm_getr (j := 2) (u := 90) C (Nat.le_of_ble_eq_true rfl) rfl kc_1 (k := 1) rfl (by decide) rfl rfl wl_265 dX1_greaterPart_31 ?_
        obtain ⟨v7, ev7, hf⟩ := gm_bp1_s hf
        refine gm_callSi (As := [.int (S1.1 89 y3.toNatClampNeg), .ref (ad 90)]) C (Ru_sayYes_c l cf ad gm_tk_90 ev7) wy_Ru_sayYes wl_605 rfl ⟨(Nat.le_of_ble_eq_true rfl), (Nat.le_of_ble_eq_true rfl)⟩ rfl (Nat.le_of_ble_eq_true rfl) dX1_greaterPart_34 ?_
        obtain ⟨x8, hx, hf⟩ := gm_bp1_s hf
        have key : gm_G p l e { frames := 3, cells := 0, slots := 0, locals := 58 } s m args below meth c (MQ below (gm_Q cf ad gm_sC 106 (some (.int r)) S') args s 0 0 (gm_A ad 106)) cf ad gm_sC 106 4 S1 43 [(0, .ref (ad 88)), (2, .int x8), (3, .int y3)] [] := by
          obtain ⟨x9, ex9, hf⟩ := gm_lt_s hf
          refine gm_iinc (v := x9) (lv' := [(3, .int x9), (0, .ref (ad 88)), (2, .int x8)]) (j := 2) C dX1_greaterPart_43 rfl (by rw [ex9]; rfl) (by decide) rfl ?_
          refine gm_goto C 16 dX1_greaterPart_46 (by decide) ?_
          exact gm_lvp [1, 2, 0] rfl (ih _ _ _ hf K)
        have hf := hx
        refine gm_if_eq C 43 dX1_greaterPart_37 (by decide) (fun c10 => ?_) (fun c10 => ?_)
        · have hf := gm_it _ c10 hf
          cases hf
          exact gm_lvp [0, 1, 2] rfl key
        · have hf := gm_if _ c10 hf
          obtain ⟨x11, ex11, hf⟩ := gm_lt_s hf
          refine gm_iinc (v := x11) (lv' := [(2, .int x11), (0, .ref (ad 88)), (3, .int y3)]) (j := 1) C dX1_greaterPart_40 rfl (by rw [ex11]; rfl) (by decide) rfl ?_
          cases hf
          exact gm_lvp [1, 0, 2] rfl key
  obtain ⟨z4, hx, hf⟩ := gm_bp1_s hf
  refine gm_lvp [2, 1, 0] rfl (L16 fl _ _ _ hx ?_)
  refine gm_iload_n C dX1_greaterPart_49 rfl 1 rfl ?_
  refine gm_aload_n C dX1_greaterPart_50 rfl 0 rfl ?_
  refine gm_geti C (Nat.le_of_ble_eq_true rfl) rfl kc_1 (k := 2) rfl (by decide) rfl wl_266 dX1_greaterPart_51 ?_
  refine gm_iload_n C dX1_greaterPart_54 rfl 1 rfl ?_
  refine gm_isub C dX1_greaterPart_55 ?_
  refine gm_mmax C wl_606 wm_max.1 wm_max.2.1 wm_max.2.2 (Nat.le_of_ble_eq_true rfl) (Nat.le_of_ble_eq_true rfl) dX1_greaterPart_56 ?_
  obtain ⟨x12, ex12, hf⟩ := gm_lt_s hf
  refine gm_topi ex12 ?_
  exact gm_iret C hr rfl dX1_greaterPart_59 hf
theorem dX1_findQuestion_0 : decode cX1_findQuestion 0 = .ok (.iconst (-1), 1) := by decide +kernel
theorem dX1_findQuestion_1 : decode cX1_findQuestion 1 = .ok (.istore_n 1, 1) := by decide +kernel
theorem dX1_findQuestion_2 : decode cX1_findQuestion 2 = .ok (.aload_n 0, 1) := by decide +kernel
theorem dX1_findQuestion_3 : decode cX1_findQuestion 3 = .ok (.getfield 34, 3) := by decide +kernel
theorem dX1_findQuestion_6 : decode cX1_findQuestion 6 = .ok (.istore_n 2, 1) := by decide +kernel
theorem dX1_findQuestion_7 : decode cX1_findQuestion 7 = .ok (.iconst 0, 1) := by decide +kernel
theorem dX1_findQuestion_8 : decode cX1_findQuestion 8 = .ok (.istore_n 3, 1) := by decide +kernel
theorem dX1_findQuestion_9 : decode cX1_findQuestion 9 = .ok (.iload_n 3, 1) := by decide +kernel
theorem dX1_findQuestion_10 : decode cX1_findQuestion 10 = .ok (.bipush 100, 2) := by decide +kernel
theorem dX1_findQuestion_12 : decode cX1_findQuestion 12 = .ok (.if_icmp .ge 27, 3) := by decide +kernel
theorem dX1_findQuestion_15 : decode cX1_findQuestion 15 = .ok (.aload_n 0, 1) := by decide +kernel
theorem dX1_findQuestion_16 : decode cX1_findQuestion 16 = .ok (.iload_n 3, 1) := by decide +kernel
theorem dX1_findQuestion_17 : decode cX1_findQuestion 17 = .ok (.invokevirtual 71, 3) := by decide +kernel
theorem dX1_findQuestion_20 : decode cX1_findQuestion 20 = .ok (.istore 4, 2) := by decide +kernel
theorem dX1_findQuestion_22 : decode cX1_findQuestion 22 = .ok (.iload 4, 2) := by decide +kernel
theorem dX1_findQuestion_24 : decode cX1_findQuestion 24 = .ok (.iload_n 2, 1) := by decide +kernel
theorem dX1_findQuestion_25 : decode cX1_findQuestion 25 = .ok (.if_icmp .ge 8, 3) := by decide +kernel
theorem dX1_findQuestion_28 : decode cX1_findQuestion 28 = .ok (.iload_n 3, 1) := by decide +kernel
theorem dX1_findQuestion_29 : decode cX1_findQuestion 29 = .ok (.istore_n 1, 1) := by decide +kernel
theorem dX1_findQuestion_30 : decode cX1_findQuestion 30 = .ok (.iload 4, 2) := by decide +kernel
theorem dX1_findQuestion_32 : decode cX1_findQuestion 32 = .ok (.istore_n 2, 1) := by decide +kernel
theorem dX1_findQuestion_33 : decode cX1_findQuestion 33 = .ok (.iinc 3 1, 3) := by decide +kernel
theorem dX1_findQuestion_36 : decode cX1_findQuestion 36 = .ok (.goto (-27), 3) := by decide +kernel
theorem dX1_findQuestion_39 : decode cX1_findQuestion 39 = .ok (.iload_n 1, 1) := by decide +kernel
theorem dX1_findQuestion_40 : decode cX1_findQuestion 40 = .ok (.ireturn, 1) := by decide +kernel
def Gs_findQuestion_L9_b (fl : Nat) (rec : Int32 → Int32 → Int32 → gm_M → Option (Int32 × gm_M)) (y2 : Int32) (y3 : Int32) (y4 : Int32) (S5 : gm_M) : Option (Int32 × gm_M) :=
  if (100 : Int32) ≤ y4 then (
    some (y2, S5)
  ) else (
    gm_bp2 (Gs_greaterPart fl y4 S5) fun v9 S10 =>
    gm_bp2 (show Option (Int32 × Int32) from
      if y3 ≤ v9 then (
        some (y2, y3)
      ) else (
        some (y4, v9)
      )
    ) fun x11 x12 =>
    gm_lt (α := Int32) (y4 + 1) fun x13 =>
    rec x11 x12 x13 S10
  )
def Gs_findQuestion_L9 (fl : Nat) : Nat → Int32 → Int32 → Int32 → gm_M → Option (Int32 × gm_M)
  | 0 => fun _ _ _ _ => none
  | n + 1 => Gs_findQuestion_L9_b fl (Gs_findQuestion_L9 fl n)
def Gs_findQuestion (fl : Nat) (S : gm_M) : Option (Int32 × gm_M) :=
  gm_lt (α := Int32) (S.1 88 2) fun x1 =>
  gm_bp2 (Gs_findQuestion_L9 fl fl (-1) x1 0 S) fun z6 S7 =>
  some (z6, S7)
set_option maxHeartbeats 4000000 in
set_option maxRecDepth 100000 in
theorem Gs_findQuestion_c (l : Launch) (cf : gm_C) (ad : Nat → Nat) {fl : Nat}    {S : gm_M} {r : Int32} {S'  : gm_M} (hf : Gs_findQuestion fl S = some (r, S')) : gm_Met l yX1_findQuestion cX1_findQuestion 5 (some .int) 4 81 cf ad gm_sC 106 [.ref (ad 88)] S (some (.int r)) S' := by
  refine gm_met (by decide +kernel) (Nat.le_of_ble_eq_true rfl) ?_
  intro p e s m args below meth c C hr
  have C : gm_F p s m args meth c cf ad 106 cX1_findQuestion 5 RX1 := C
  refine gm_lve (lv' := [(0, .ref (ad 88))]) rfl ?_
  unfold Gs_findQuestion at hf
  refine gm_iconst (v := (-1)) C dX1_findQuestion_0 (by decide) ?_
  refine gm_istore_n (lv' := [(1, .int (-1)), (0, .ref (ad 88))]) C dX1_findQuestion_1 rfl (by decide) rfl ?_
  refine gm_aload_n C dX1_findQuestion_2 rfl 1 rfl ?_
  refine gm_geti C (Nat.le_of_ble_eq_true rfl) rfl kc_1 (k := 2) rfl (by decide) rfl wl_266 dX1_findQuestion_3 ?_
  obtain ⟨x1, ex1, hf⟩ := gm_lt_s hf
  refine gm_topi ex1 ?_
  refine gm_istore_n (lv' := [(2, .int x1), (1, .int (-1)), (0, .ref (ad 88))]) C dX1_findQuestion_6 rfl (by decide) rfl ?_
  refine gm_iconst (v := 0) C dX1_findQuestion_7 (by decide) ?_
  refine gm_istore_n (lv' := [(3, .int 0), (2, .int x1), (1, .int (-1)), (0, .ref (ad 88))]) C dX1_findQuestion_8 rfl (by decide) rfl ?_
  have L9 : ∀ (n : Nat) (y2 : Int32) (y3 : Int32) (y4 : Int32) (S5 : gm_M) (z6 : Int32) (S7 : gm_M), Gs_findQuestion_L9 fl n y2 y3 y4 S5 = some (z6, S7) → gm_G p l e { frames := 4, cells := 0, slots := 0, locals := 81 } s m args below meth c (MQ below (gm_Q cf ad gm_sC 106 (some (.int r)) S') args s 0 0 (gm_A ad 106)) cf ad gm_sC 106 5 S7 39 [(1, .int z6)] [] → gm_G p l e { frames := 4, cells := 0, slots := 0, locals := 81 } s m args below meth c (MQ below (gm_Q cf ad gm_sC 106 (some (.int r)) S') args s 0 0 (gm_A ad 106)) cf ad gm_sC 106 5 S5 9 [(0, .ref (ad 88)), (1, .int y2), (2, .int y3), (3, .int y4)] [] := by
    intro n
    induction n with
    | zero => intro y2 y3 y4 S5 z6 S7 hf K; cases (show (none : Option _) = some _ from hf)
    | succ n ih =>
      intro y2 y3 y4 S5 z6 S7 hf K
      have hf : Gs_findQuestion_L9_b fl (Gs_findQuestion_L9 fl n) y2 y3 y4 S5 = some (z6, S7) := hf
      unfold Gs_findQuestion_L9_b at hf
      refine gm_iload_n C dX1_findQuestion_9 rfl 3 rfl ?_
      refine gm_bipush (v := 100) C dX1_findQuestion_10 (by decide) ?_
      refine gm_icmp_ge C 39 dX1_findQuestion_12 (by decide) (fun c8 => ?_) (fun c8 => ?_)
      · have hf := gm_it _ c8 hf
        cases hf
        exact gm_lvp [1] rfl K
      · have hf := gm_if _ c8 hf
        refine gm_aload_n C dX1_findQuestion_15 rfl 0 rfl ?_
        refine gm_iload_n C dX1_findQuestion_16 rfl 3 rfl ?_
        obtain ⟨v9, S10, eS10, hf⟩ := gm_bp2_s hf
        refine gm_callVi (As := [.int y4]) C (Gs_greaterPart_c l cf ad eS10) (Nat.le_of_ble_eq_true rfl) rfl kc_1 wy_Gs_greaterPart rfl wl_600 rfl ⟨(Nat.le_of_ble_eq_true rfl), (Nat.le_of_ble_eq_true rfl)⟩ rfl (Nat.le_of_ble_eq_true rfl) dX1_findQuestion_17 ?_
        refine gm_istore (lv' := [(4, .int v9), (0, .ref (ad 88)), (1, .int y2), (2, .int y3), (3, .int y4)]) C dX1_findQuestion_20 (by decide) rfl ?_
        refine gm_iload C dX1_findQuestion_22 0 rfl ?_
        refine gm_iload_n C dX1_findQuestion_24 rfl 3 rfl ?_
        obtain ⟨x11, x12, hx, hf⟩ := gm_bp2_s hf
        have key : gm_G p l e { frames := 4, cells := 0, slots := 0, locals := 81 } s m args below meth c (MQ below (gm_Q cf ad gm_sC 106 (some (.int r)) S') args s 0 0 (gm_A ad 106)) cf ad gm_sC 106 5 S10 33 [(0, .ref (ad 88)), (1, .int x11), (2, .int x12), (3, .int y4)] [] := by
          obtain ⟨x13, ex13, hf⟩ := gm_lt_s hf
          refine gm_iinc (v := x13) (lv' := [(3, .int x13), (0, .ref (ad 88)), (1, .int x11), (2, .int x12)]) (j := 3) C dX1_findQuestion_33 rfl (by rw [ex13]; rfl) (by decide) rfl ?_
          refine gm_goto C 9 dX1_findQuestion_36 (by decide) ?_
          exact gm_lvp [1, 2, 3, 0] rfl (ih _ _ _ _ _ _ hf K)
        have hf := hx
        refine gm_icmp_ge C 33 dX1_findQuestion_25 (by decide) (fun c14 => ?_) (fun c14 => ?_)
        · have hf := gm_it _ c14 hf
          cases hf
          exact gm_lvp [1, 2, 3, 4] rfl key
        · have hf := gm_if _ c14 hf
          refine gm_iload_n C dX1_findQuestion_28 rfl 4 rfl ?_
          refine gm_istore_n (lv' := [(1, .int y4), (4, .int v9), (0, .ref (ad 88)), (2, .int y3), (3, .int y4)]) C dX1_findQuestion_29 rfl (by decide) rfl ?_
          refine gm_iload C dX1_findQuestion_30 1 rfl ?_
          refine gm_istore_n (lv' := [(2, .int v9), (1, .int y4), (4, .int v9), (0, .ref (ad 88)), (3, .int y4)]) C dX1_findQuestion_32 rfl (by decide) rfl ?_
          cases hf
          exact gm_lvp [3, 1, 0, 4] rfl key
  obtain ⟨z6, S7, hx, hf⟩ := gm_bp2_s hf
  refine gm_lvp [3, 2, 1, 0] rfl (L9 fl _ _ _ _ _ _ hx ?_)
  refine gm_iload_n C dX1_findQuestion_39 rfl 0 rfl ?_
  exact gm_iret C hr rfl dX1_findQuestion_40 hf
theorem dX1_bestQuestion_0 : decode cX1_bestQuestion 0 = .ok (.aload_n 0, 1) := by decide +kernel
theorem dX1_bestQuestion_1 : decode cX1_bestQuestion 1 = .ok (.getfield 37, 3) := by decide +kernel
theorem dX1_bestQuestion_4 : decode cX1_bestQuestion 4 = .ok (.ifCond .ne 16, 3) := by decide +kernel
theorem dX1_bestQuestion_7 : decode cX1_bestQuestion 7 = .ok (.aload_n 0, 1) := by decide +kernel
theorem dX1_bestQuestion_8 : decode cX1_bestQuestion 8 = .ok (.aload_n 0, 1) := by decide +kernel
theorem dX1_bestQuestion_9 : decode cX1_bestQuestion 9 = .ok (.invokevirtual 67, 3) := by decide +kernel
theorem dX1_bestQuestion_12 : decode cX1_bestQuestion 12 = .ok (.putfield 24, 3) := by decide +kernel
theorem dX1_bestQuestion_15 : decode cX1_bestQuestion 15 = .ok (.aload_n 0, 1) := by decide +kernel
theorem dX1_bestQuestion_16 : decode cX1_bestQuestion 16 = .ok (.iconst 1, 1) := by decide +kernel
theorem dX1_bestQuestion_17 : decode cX1_bestQuestion 17 = .ok (.putfield 37, 3) := by decide +kernel
theorem dX1_bestQuestion_20 : decode cX1_bestQuestion 20 = .ok (.aload_n 0, 1) := by decide +kernel
theorem dX1_bestQuestion_21 : decode cX1_bestQuestion 21 = .ok (.getfield 24, 3) := by decide +kernel
theorem dX1_bestQuestion_24 : decode cX1_bestQuestion 24 = .ok (.ireturn, 1) := by decide +kernel
def Gs_bestQuestion (fl : Nat) (S : gm_M) : Option (Int32 × gm_M) :=
  if S.1 88 6 = 0 then (
    gm_bp2 (Gs_findQuestion fl S) fun v2 S3 =>
    gm_lt (α := gm_M) (gm_ui S3 88 5 v2) fun S4 =>
    gm_lt (α := gm_M) (gm_ui S4 88 6 1) fun S5 =>
    some (S5.1 88 5, S5)
  ) else (
    some (S.1 88 5, S)
  )
set_option maxHeartbeats 4000000 in
set_option maxRecDepth 100000 in
theorem Gs_bestQuestion_c (l : Launch) (cf : gm_C) (ad : Nat → Nat) {fl : Nat}    {S : gm_M} {r : Int32} {S'  : gm_M} (hf : Gs_bestQuestion fl S = some (r, S')) : gm_Met l yX1_bestQuestion cX1_bestQuestion 1 (some .int) 5 105 cf ad gm_sC 106 [.ref (ad 88)] S (some (.int r)) S' := by
  refine gm_met (by decide +kernel) (Nat.le_of_ble_eq_true rfl) ?_
  intro p e s m args below meth c C hr
  have C : gm_F p s m args meth c cf ad 106 cX1_bestQuestion 1 RX1 := C
  refine gm_lve (lv' := [(0, .ref (ad 88))]) rfl ?_
  unfold Gs_bestQuestion at hf
  refine gm_aload_n C dX1_bestQuestion_0 rfl 0 rfl ?_
  refine gm_geti C (Nat.le_of_ble_eq_true rfl) rfl kc_1 (k := 6) rfl (by decide) rfl wl_272 dX1_bestQuestion_1 ?_
  refine gm_if_ne C 20 dX1_bestQuestion_4 (by decide) (fun c1 => ?_) (fun c1 => ?_)
  · have hf := gm_if _ c1 hf
    refine gm_aload_n C dX1_bestQuestion_20 rfl 0 rfl ?_
    refine gm_geti C (Nat.le_of_ble_eq_true rfl) rfl kc_1 (k := 5) rfl (by decide) rfl wl_271 dX1_bestQuestion_21 ?_
    exact gm_iret C hr rfl dX1_bestQuestion_24 hf
  · have hf := gm_it _ c1 hf
    refine gm_aload_n C dX1_bestQuestion_7 rfl 0 rfl ?_
    refine gm_aload_n C dX1_bestQuestion_8 rfl 0 rfl ?_
    obtain ⟨v2, S3, eS3, hf⟩ := gm_bp2_s hf
    refine gm_callVi (As := []) C (Gs_findQuestion_c l cf ad eS3) (Nat.le_of_ble_eq_true rfl) rfl kc_1 wy_Gs_findQuestion rfl wl_596 rfl ⟨(Nat.le_of_ble_eq_true rfl), (Nat.le_of_ble_eq_true rfl)⟩ rfl (Nat.le_of_ble_eq_true rfl) dX1_bestQuestion_9 ?_
    refine gm_puti C (Nat.le_of_ble_eq_true rfl) rfl kc_1 (k := 5) rfl (by decide) rfl rfl (kc_1.2.2.2.1 5 (by decide)) rfl rfl wl_271 dX1_bestQuestion_12 ?_
    obtain ⟨S4, eS4, hf⟩ := gm_lt_s hf
    refine gm_topm eS4 ?_
    refine gm_aload_n C dX1_bestQuestion_15 rfl 0 rfl ?_
    refine gm_iconst (v := 1) C dX1_bestQuestion_16 (by decide) ?_
    refine gm_puti C (Nat.le_of_ble_eq_true rfl) rfl kc_1 (k := 6) rfl (by decide) rfl rfl (kc_1.2.2.2.1 6 (by decide)) rfl rfl wl_272 dX1_bestQuestion_17 ?_
    obtain ⟨S5, eS5, hf⟩ := gm_lt_s hf
    refine gm_topm eS5 ?_
    refine gm_aload_n C dX1_bestQuestion_20 rfl 0 rfl ?_
    refine gm_geti C (Nat.le_of_ble_eq_true rfl) rfl kc_1 (k := 5) rfl (by decide) rfl wl_271 dX1_bestQuestion_21 ?_
    exact gm_iret C hr rfl dX1_bestQuestion_24 hf
theorem dX10_told_0 : decode cX10_told 0 = .ok (.iload_n 1, 1) := by decide +kernel
theorem dX10_told_1 : decode cX10_told 1 = .ok (.tableswitch 195 0 14 #[75, 83, 91, 99, 107, 115, 126, 134, 142, 147, 155, 163, 171, 179, 187], 75) := by decide +kernel
theorem dX10_told_76 : decode cX10_told 76 = .ok (.aload_n 0, 1) := by decide +kernel
theorem dX10_told_77 : decode cX10_told 77 = .ok (.getfield 19, 3) := by decide +kernel
theorem dX10_told_80 : decode cX10_told 80 = .ok (.getfield 97, 3) := by decide +kernel
theorem dX10_told_83 : decode cX10_told 83 = .ok (.ireturn, 1) := by decide +kernel
theorem dX10_told_84 : decode cX10_told 84 = .ok (.aload_n 0, 1) := by decide +kernel
theorem dX10_told_85 : decode cX10_told 85 = .ok (.getfield 19, 3) := by decide +kernel
theorem dX10_told_88 : decode cX10_told 88 = .ok (.getfield 112, 3) := by decide +kernel
theorem dX10_told_91 : decode cX10_told 91 = .ok (.ireturn, 1) := by decide +kernel
theorem dX10_told_92 : decode cX10_told 92 = .ok (.aload_n 0, 1) := by decide +kernel
theorem dX10_told_93 : decode cX10_told 93 = .ok (.getfield 19, 3) := by decide +kernel
theorem dX10_told_96 : decode cX10_told 96 = .ok (.getfield 115, 3) := by decide +kernel
theorem dX10_told_99 : decode cX10_told 99 = .ok (.ireturn, 1) := by decide +kernel
theorem dX10_told_100 : decode cX10_told 100 = .ok (.aload_n 0, 1) := by decide +kernel
theorem dX10_told_101 : decode cX10_told 101 = .ok (.getfield 19, 3) := by decide +kernel
theorem dX10_told_104 : decode cX10_told 104 = .ok (.getfield 118, 3) := by decide +kernel
theorem dX10_told_107 : decode cX10_told 107 = .ok (.ireturn, 1) := by decide +kernel
theorem dX10_told_108 : decode cX10_told 108 = .ok (.aload_n 0, 1) := by decide +kernel
theorem dX10_told_109 : decode cX10_told 109 = .ok (.getfield 19, 3) := by decide +kernel
theorem dX10_told_112 : decode cX10_told 112 = .ok (.getfield 109, 3) := by decide +kernel
theorem dX10_told_115 : decode cX10_told 115 = .ok (.ireturn, 1) := by decide +kernel
theorem dX10_told_116 : decode cX10_told 116 = .ok (.aload_n 0, 1) := by decide +kernel
theorem dX10_told_117 : decode cX10_told 117 = .ok (.getfield 10, 3) := by decide +kernel
theorem dX10_told_120 : decode cX10_told 120 = .ok (.getfield 63, 3) := by decide +kernel
theorem dX10_told_123 : decode cX10_told 123 = .ok (.getfield 73, 3) := by decide +kernel
theorem dX10_told_126 : decode cX10_told 126 = .ok (.ireturn, 1) := by decide +kernel
theorem dX10_told_127 : decode cX10_told 127 = .ok (.aload_n 0, 1) := by decide +kernel
theorem dX10_told_128 : decode cX10_told 128 = .ok (.getfield 19, 3) := by decide +kernel
theorem dX10_told_131 : decode cX10_told 131 = .ok (.getfield 121, 3) := by decide +kernel
theorem dX10_told_134 : decode cX10_told 134 = .ok (.ireturn, 1) := by decide +kernel
theorem dX10_told_135 : decode cX10_told 135 = .ok (.aload_n 0, 1) := by decide +kernel
theorem dX10_told_136 : decode cX10_told 136 = .ok (.getfield 26, 3) := by decide +kernel
theorem dX10_told_139 : decode cX10_told 139 = .ok (.getfield 124, 3) := by decide +kernel
theorem dX10_told_142 : decode cX10_told 142 = .ok (.ireturn, 1) := by decide +kernel
theorem dX10_told_143 : decode cX10_told 143 = .ok (.aload_n 0, 1) := by decide +kernel
theorem dX10_told_144 : decode cX10_told 144 = .ok (.invokevirtual 125, 3) := by decide +kernel
theorem dX10_told_147 : decode cX10_told 147 = .ok (.ireturn, 1) := by decide +kernel
theorem dX10_told_148 : decode cX10_told 148 = .ok (.aload_n 0, 1) := by decide +kernel
theorem dX10_told_149 : decode cX10_told 149 = .ok (.getfield 19, 3) := by decide +kernel
theorem dX10_told_152 : decode cX10_told 152 = .ok (.invokevirtual 129, 3) := by decide +kernel
theorem dX10_told_155 : decode cX10_told 155 = .ok (.ireturn, 1) := by decide +kernel
theorem dX10_told_156 : decode cX10_told 156 = .ok (.aload_n 0, 1) := by decide +kernel
theorem dX10_told_157 : decode cX10_told 157 = .ok (.getfield 40, 3) := by decide +kernel
theorem dX10_told_160 : decode cX10_told 160 = .ok (.getfield 132, 3) := by decide +kernel
theorem dX10_told_163 : decode cX10_told 163 = .ok (.ireturn, 1) := by decide +kernel
theorem dX10_told_164 : decode cX10_told 164 = .ok (.aload_n 0, 1) := by decide +kernel
theorem dX10_told_165 : decode cX10_told 165 = .ok (.getfield 40, 3) := by decide +kernel
theorem dX10_told_168 : decode cX10_told 168 = .ok (.getfield 135, 3) := by decide +kernel
theorem dX10_told_171 : decode cX10_told 171 = .ok (.ireturn, 1) := by decide +kernel
theorem dX10_told_172 : decode cX10_told 172 = .ok (.aload_n 0, 1) := by decide +kernel
theorem dX10_told_173 : decode cX10_told 173 = .ok (.getfield 40, 3) := by decide +kernel
theorem dX10_told_176 : decode cX10_told 176 = .ok (.invokevirtual 136, 3) := by decide +kernel
theorem dX10_told_179 : decode cX10_told 179 = .ok (.ireturn, 1) := by decide +kernel
theorem dX10_told_180 : decode cX10_told 180 = .ok (.aload_n 0, 1) := by decide +kernel
theorem dX10_told_181 : decode cX10_told 181 = .ok (.getfield 47, 3) := by decide +kernel
theorem dX10_told_184 : decode cX10_told 184 = .ok (.getfield 104, 3) := by decide +kernel
theorem dX10_told_187 : decode cX10_told 187 = .ok (.ireturn, 1) := by decide +kernel
theorem dX10_told_188 : decode cX10_told 188 = .ok (.aload_n 0, 1) := by decide +kernel
theorem dX10_told_189 : decode cX10_told 189 = .ok (.getfield 33, 3) := by decide +kernel
theorem dX10_told_192 : decode cX10_told 192 = .ok (.getfield 94, 3) := by decide +kernel
theorem dX10_told_195 : decode cX10_told 195 = .ok (.ireturn, 1) := by decide +kernel
theorem dX10_told_196 : decode cX10_told 196 = .ok (.ldc 62, 2) := by decide +kernel
theorem dX10_told_198 : decode cX10_told 198 = .ok (.ireturn, 1) := by decide +kernel
def Lt_told (fl : Nat) (a0 : Int32) (S : gm_M) : Option (Int32 × gm_M) :=
  if a0 = 0 then (
    some (S.1 8 3, S)
  ) else (
  if a0 = 1 then (
    some (S.1 8 4, S)
  ) else (
  if a0 = 2 then (
    some (S.1 8 6, S)
  ) else (
  if a0 = 3 then (
    some (S.1 8 7, S)
  ) else (
  if a0 = 4 then (
    some (S.1 8 8, S)
  ) else (
  if a0 = 5 then (
    some (S.1 2 1, S)
  ) else (
  if a0 = 6 then (
    some (S.1 8 5, S)
  ) else (
  if a0 = 7 then (
    some (S.1 12 9, S)
  ) else (
  if a0 = 8 then (
    gm_bp1 (Lt_bestRoll fl S) fun v10 =>
    some (v10, S)
  ) else (
  if a0 = 9 then (
    gm_bp1 (Tr_luckiestRider fl 8 S) fun v12 =>
    some (v12, S)
  ) else (
  if a0 = 10 then (
    some (S.1 88 3, S)
  ) else (
  if a0 = 11 then (
    some (S.1 88 2, S)
  ) else (
  if a0 = 12 then (
    gm_bp2 (Gs_bestQuestion fl S) fun v16 S17 =>
    some (v16, S17)
  ) else (
  if a0 = 13 then (
    some (S.1 92 2, S)
  ) else (
  if a0 = 14 then (
    some (S.1 22 2, S)
  ) else (
    some ((-1000000002), S)
  )))))))))))))))
set_option maxHeartbeats 4000000 in
set_option maxRecDepth 100000 in
theorem Lt_told_c (l : Launch) (cf : gm_C) (ad : Nat → Nat) {fl : Nat}   {a0 : Int32} {S : gm_M} {r : Int32} {S'  : gm_M} (hf : Lt_told fl a0 S = some (r, S')) : gm_Met l yX10_told cX10_told 2 (some .int) 6 125 cf ad gm_sC 106 [.ref (ad 0), .int a0] S (some (.int r)) S' := by
  refine gm_met (by decide +kernel) (Nat.le_of_ble_eq_true rfl) ?_
  intro p e s m args below meth c C hr
  have C : gm_F p s m args meth c cf ad 106 cX10_told 2 RX10 := C
  refine gm_lve (lv' := [(0, .ref (ad 0)), (1, .int a0)]) rfl ?_
  unfold Lt_told at hf
  refine gm_iload_n C dX10_told_0 rfl 1 rfl ?_
  by_cases c1 : a0 = 0
  · have hf := gm_it _ c1 hf
    refine gm_tableIn C 76 dX10_told_1 (by rw [c1]; decide) (by rw [c1]; decide) (by rw [c1]; rfl) (by decide) ?_
    refine gm_aload_n C dX10_told_76 rfl 0 rfl ?_
    refine gm_getr (j := 8) (u := 8) C (Nat.le_of_ble_eq_true rfl) rfl kc_10 (k := 1) rfl (by decide) rfl rfl wl_329 dX10_told_77 ?_
    refine gm_geti C (Nat.le_of_ble_eq_true rfl) rfl kc_9 (k := 3) rfl (by decide) rfl wl_111 dX10_told_80 ?_
    exact gm_iret C hr rfl dX10_told_83 hf
  · have hf := gm_if _ c1 hf
    by_cases c2 : a0 = 1
    · have hf := gm_it _ c2 hf
      refine gm_tableIn C 84 dX10_told_1 (by rw [c2]; decide) (by rw [c2]; decide) (by rw [c2]; rfl) (by decide) ?_
      refine gm_aload_n C dX10_told_84 rfl 0 rfl ?_
      refine gm_getr (j := 8) (u := 8) C (Nat.le_of_ble_eq_true rfl) rfl kc_10 (k := 1) rfl (by decide) rfl rfl wl_329 dX10_told_85 ?_
      refine gm_geti C (Nat.le_of_ble_eq_true rfl) rfl kc_9 (k := 4) rfl (by decide) rfl wl_115 dX10_told_88 ?_
      exact gm_iret C hr rfl dX10_told_91 hf
    · have hf := gm_if _ c2 hf
      by_cases c3 : a0 = 2
      · have hf := gm_it _ c3 hf
        refine gm_tableIn C 92 dX10_told_1 (by rw [c3]; decide) (by rw [c3]; decide) (by rw [c3]; rfl) (by decide) ?_
        refine gm_aload_n C dX10_told_92 rfl 0 rfl ?_
        refine gm_getr (j := 8) (u := 8) C (Nat.le_of_ble_eq_true rfl) rfl kc_10 (k := 1) rfl (by decide) rfl rfl wl_329 dX10_told_93 ?_
        refine gm_geti C (Nat.le_of_ble_eq_true rfl) rfl kc_9 (k := 6) rfl (by decide) rfl wl_121 dX10_told_96 ?_
        exact gm_iret C hr rfl dX10_told_99 hf
      · have hf := gm_if _ c3 hf
        by_cases c4 : a0 = 3
        · have hf := gm_it _ c4 hf
          refine gm_tableIn C 100 dX10_told_1 (by rw [c4]; decide) (by rw [c4]; decide) (by rw [c4]; rfl) (by decide) ?_
          refine gm_aload_n C dX10_told_100 rfl 0 rfl ?_
          refine gm_getr (j := 8) (u := 8) C (Nat.le_of_ble_eq_true rfl) rfl kc_10 (k := 1) rfl (by decide) rfl rfl wl_329 dX10_told_101 ?_
          refine gm_geti C (Nat.le_of_ble_eq_true rfl) rfl kc_9 (k := 7) rfl (by decide) rfl wl_124 dX10_told_104 ?_
          exact gm_iret C hr rfl dX10_told_107 hf
        · have hf := gm_if _ c4 hf
          by_cases c5 : a0 = 4
          · have hf := gm_it _ c5 hf
            refine gm_tableIn C 108 dX10_told_1 (by rw [c5]; decide) (by rw [c5]; decide) (by rw [c5]; rfl) (by decide) ?_
            refine gm_aload_n C dX10_told_108 rfl 0 rfl ?_
            refine gm_getr (j := 8) (u := 8) C (Nat.le_of_ble_eq_true rfl) rfl kc_10 (k := 1) rfl (by decide) rfl rfl wl_329 dX10_told_109 ?_
            refine gm_geti C (Nat.le_of_ble_eq_true rfl) rfl kc_9 (k := 8) rfl (by decide) rfl wl_127 dX10_told_112 ?_
            exact gm_iret C hr rfl dX10_told_115 hf
          · have hf := gm_if _ c5 hf
            by_cases c6 : a0 = 5
            · have hf := gm_it _ c6 hf
              refine gm_tableIn C 116 dX10_told_1 (by rw [c6]; decide) (by rw [c6]; decide) (by rw [c6]; rfl) (by decide) ?_
              refine gm_aload_n C dX10_told_116 rfl 0 rfl ?_
              refine gm_getr (j := 1) (u := 1) C (Nat.le_of_ble_eq_true rfl) rfl kc_10 (k := 0) rfl (by decide) rfl rfl wl_328 dX10_told_117 ?_
              refine gm_getr (j := 1) (u := 2) C (Nat.le_of_ble_eq_true rfl) rfl kc_5 (k := 0) rfl (by decide) rfl rfl wl_150 dX10_told_120 ?_
              refine gm_geti C (Nat.le_of_ble_eq_true rfl) rfl kc_7 (k := 1) rfl (by decide) rfl wl_90 dX10_told_123 ?_
              exact gm_iret C hr rfl dX10_told_126 hf
            · have hf := gm_if _ c6 hf
              by_cases c7 : a0 = 6
              · have hf := gm_it _ c7 hf
                refine gm_tableIn C 127 dX10_told_1 (by rw [c7]; decide) (by rw [c7]; decide) (by rw [c7]; rfl) (by decide) ?_
                refine gm_aload_n C dX10_told_127 rfl 0 rfl ?_
                refine gm_getr (j := 8) (u := 8) C (Nat.le_of_ble_eq_true rfl) rfl kc_10 (k := 1) rfl (by decide) rfl rfl wl_329 dX10_told_128 ?_
                refine gm_geti C (Nat.le_of_ble_eq_true rfl) rfl kc_9 (k := 5) rfl (by decide) rfl wl_118 dX10_told_131 ?_
                exact gm_iret C hr rfl dX10_told_134 hf
              · have hf := gm_if _ c7 hf
                by_cases c8 : a0 = 7
                · have hf := gm_it _ c8 hf
                  refine gm_tableIn C 135 dX10_told_1 (by rw [c8]; decide) (by rw [c8]; decide) (by rw [c8]; rfl) (by decide) ?_
                  refine gm_aload_n C dX10_told_135 rfl 0 rfl ?_
                  refine gm_getr (j := 12) (u := 12) C (Nat.le_of_ble_eq_true rfl) rfl kc_10 (k := 2) rfl (by decide) rfl rfl wl_330 dX10_told_136 ?_
                  refine gm_geti C (Nat.le_of_ble_eq_true rfl) rfl kc_3 (k := 9) rfl (by decide) rfl wl_213 dX10_told_139 ?_
                  exact gm_iret C hr rfl dX10_told_142 hf
                · have hf := gm_if _ c8 hf
                  by_cases c9 : a0 = 8
                  · have hf := gm_it _ c9 hf
                    refine gm_tableIn C 143 dX10_told_1 (by rw [c9]; decide) (by rw [c9]; decide) (by rw [c9]; rfl) (by decide) ?_
                    refine gm_aload_n C dX10_told_143 rfl 0 rfl ?_
                    obtain ⟨v10, ev10, hf⟩ := gm_bp1_s hf
                    refine gm_callVi (As := []) C (Lt_bestRoll_c l cf ad ev10) (Nat.le_of_ble_eq_true rfl) rfl kc_10 wy_Lt_bestRoll rfl wl_559 rfl ⟨(Nat.le_of_ble_eq_true rfl), (Nat.le_of_ble_eq_true rfl)⟩ rfl (Nat.le_of_ble_eq_true rfl) dX10_told_144 ?_
                    exact gm_iret C hr rfl dX10_told_147 hf
                  · have hf := gm_if _ c9 hf
                    by_cases c11 : a0 = 9
                    · have hf := gm_it _ c11 hf
                      refine gm_tableIn C 148 dX10_told_1 (by rw [c11]; decide) (by rw [c11]; decide) (by rw [c11]; rfl) (by decide) ?_
                      refine gm_aload_n C dX10_told_148 rfl 0 rfl ?_
                      refine gm_getr (j := 8) (u := 8) C (Nat.le_of_ble_eq_true rfl) rfl kc_10 (k := 1) rfl (by decide) rfl rfl wl_329 dX10_told_149 ?_
                      obtain ⟨v12, ev12, hf⟩ := gm_bp1_s hf
                      refine gm_callVi (As := []) C (Tr_luckiestRider_c l cf ad gm_tr_8 ev12) (Nat.le_of_ble_eq_true rfl) rfl kc_9 wy_Tr_luckiestRider rfl wl_584 rfl ⟨(Nat.le_of_ble_eq_true rfl), (Nat.le_of_ble_eq_true rfl)⟩ rfl (Nat.le_of_ble_eq_true rfl) dX10_told_152 ?_
                      exact gm_iret C hr rfl dX10_told_155 hf
                    · have hf := gm_if _ c11 hf
                      by_cases c13 : a0 = 10
                      · have hf := gm_it _ c13 hf
                        refine gm_tableIn C 156 dX10_told_1 (by rw [c13]; decide) (by rw [c13]; decide) (by rw [c13]; rfl) (by decide) ?_
                        refine gm_aload_n C dX10_told_156 rfl 0 rfl ?_
                        refine gm_getr (j := 88) (u := 88) C (Nat.le_of_ble_eq_true rfl) rfl kc_10 (k := 4) rfl (by decide) rfl rfl wl_332 dX10_told_157 ?_
                        refine gm_geti C (Nat.le_of_ble_eq_true rfl) rfl kc_1 (k := 3) rfl (by decide) rfl wl_269 dX10_told_160 ?_
                        exact gm_iret C hr rfl dX10_told_163 hf
                      · have hf := gm_if _ c13 hf
                        by_cases c14 : a0 = 11
                        · have hf := gm_it _ c14 hf
                          refine gm_tableIn C 164 dX10_told_1 (by rw [c14]; decide) (by rw [c14]; decide) (by rw [c14]; rfl) (by decide) ?_
                          refine gm_aload_n C dX10_told_164 rfl 0 rfl ?_
                          refine gm_getr (j := 88) (u := 88) C (Nat.le_of_ble_eq_true rfl) rfl kc_10 (k := 4) rfl (by decide) rfl rfl wl_332 dX10_told_165 ?_
                          refine gm_geti C (Nat.le_of_ble_eq_true rfl) rfl kc_1 (k := 2) rfl (by decide) rfl wl_267 dX10_told_168 ?_
                          exact gm_iret C hr rfl dX10_told_171 hf
                        · have hf := gm_if _ c14 hf
                          by_cases c15 : a0 = 12
                          · have hf := gm_it _ c15 hf
                            refine gm_tableIn C 172 dX10_told_1 (by rw [c15]; decide) (by rw [c15]; decide) (by rw [c15]; rfl) (by decide) ?_
                            refine gm_aload_n C dX10_told_172 rfl 0 rfl ?_
                            refine gm_getr (j := 88) (u := 88) C (Nat.le_of_ble_eq_true rfl) rfl kc_10 (k := 4) rfl (by decide) rfl rfl wl_332 dX10_told_173 ?_
                            obtain ⟨v16, S17, eS17, hf⟩ := gm_bp2_s hf
                            refine gm_callVi (As := []) C (Gs_bestQuestion_c l cf ad eS17) (Nat.le_of_ble_eq_true rfl) rfl kc_1 wy_Gs_bestQuestion rfl wl_592 rfl ⟨(Nat.le_of_ble_eq_true rfl), (Nat.le_of_ble_eq_true rfl)⟩ rfl (Nat.le_of_ble_eq_true rfl) dX10_told_176 ?_
                            exact gm_iret C hr rfl dX10_told_179 hf
                          · have hf := gm_if _ c15 hf
                            by_cases c18 : a0 = 13
                            · have hf := gm_it _ c18 hf
                              refine gm_tableIn C 180 dX10_told_1 (by rw [c18]; decide) (by rw [c18]; decide) (by rw [c18]; rfl) (by decide) ?_
                              refine gm_aload_n C dX10_told_180 rfl 0 rfl ?_
                              refine gm_getr (j := 92) (u := 92) C (Nat.le_of_ble_eq_true rfl) rfl kc_10 (k := 5) rfl (by decide) rfl rfl wl_333 dX10_told_181 ?_
                              refine gm_geti C (Nat.le_of_ble_eq_true rfl) rfl kc_0 (k := 2) rfl (by decide) rfl wl_299 dX10_told_184 ?_
                              exact gm_iret C hr rfl dX10_told_187 hf
                            · have hf := gm_if _ c18 hf
                              by_cases c19 : a0 = 14
                              · have hf := gm_it _ c19 hf
                                refine gm_tableIn C 188 dX10_told_1 (by rw [c19]; decide) (by rw [c19]; decide) (by rw [c19]; rfl) (by decide) ?_
                                refine gm_aload_n C dX10_told_188 rfl 0 rfl ?_
                                refine gm_getr (j := 22) (u := 22) C (Nat.le_of_ble_eq_true rfl) rfl kc_10 (k := 3) rfl (by decide) rfl rfl wl_331 dX10_told_189 ?_
                                refine gm_geti C (Nat.le_of_ble_eq_true rfl) rfl kc_4 (k := 2) rfl (by decide) rfl wl_247 dX10_told_192 ?_
                                exact gm_iret C hr rfl dX10_told_195 hf
                              · have hf := gm_if _ c19 hf
                                have nc1 : (a0).toInt ≠ 0 := gm_nt c1
                                have nc2 : (a0).toInt ≠ 1 := gm_nt c2
                                have nc3 : (a0).toInt ≠ 2 := gm_nt c3
                                have nc4 : (a0).toInt ≠ 3 := gm_nt c4
                                have nc5 : (a0).toInt ≠ 4 := gm_nt c5
                                have nc6 : (a0).toInt ≠ 5 := gm_nt c6
                                have nc7 : (a0).toInt ≠ 6 := gm_nt c7
                                have nc8 : (a0).toInt ≠ 7 := gm_nt c8
                                have nc9 : (a0).toInt ≠ 8 := gm_nt c9
                                have nc11 : (a0).toInt ≠ 9 := gm_nt c11
                                have nc13 : (a0).toInt ≠ 10 := gm_nt c13
                                have nc14 : (a0).toInt ≠ 11 := gm_nt c14
                                have nc15 : (a0).toInt ≠ 12 := gm_nt c15
                                have nc18 : (a0).toInt ≠ 13 := gm_nt c18
                                have nc19 : (a0).toInt ≠ 14 := gm_nt c19
                                refine gm_tableOut C 196 dX10_told_1 (by omega) (by decide) ?_
                                refine gm_ldc (v := (-1000000002)) C wl_360 dX10_told_196 ?_
                                exact gm_iret C hr rfl dX10_told_198 hf
theorem dX9_hasRule_0 : decode cX9_hasRule 0 = .ok (.iload_n 1, 1) := by decide +kernel
theorem dX9_hasRule_1 : decode cX9_hasRule 1 = .ok (.ifCond .lt 15, 3) := by decide +kernel
theorem dX9_hasRule_4 : decode cX9_hasRule 4 = .ok (.iload_n 1, 1) := by decide +kernel
theorem dX9_hasRule_5 : decode cX9_hasRule 5 = .ok (.aload_n 0, 1) := by decide +kernel
theorem dX9_hasRule_6 : decode cX9_hasRule 6 = .ok (.getfield 31, 3) := by decide +kernel
theorem dX9_hasRule_9 : decode cX9_hasRule 9 = .ok (.if_icmp .ge 7, 3) := by decide +kernel
theorem dX9_hasRule_12 : decode cX9_hasRule 12 = .ok (.iconst 1, 1) := by decide +kernel
theorem dX9_hasRule_13 : decode cX9_hasRule 13 = .ok (.goto 4, 3) := by decide +kernel
theorem dX9_hasRule_16 : decode cX9_hasRule 16 = .ok (.iconst 0, 1) := by decide +kernel
theorem dX9_hasRule_17 : decode cX9_hasRule 17 = .ok (.ireturn, 1) := by decide +kernel
def Tr_hasRule (t : Nat) (a0 : Int32) (S : gm_M) : Option Int32 :=
  if a0 < 0 then (
    some (0)
  ) else (
    if S.1 t 6 ≤ a0 then (
      some (0)
    ) else (
      some (1)
    )
  )
set_option maxHeartbeats 4000000 in
set_option maxRecDepth 100000 in
theorem Tr_hasRule_c (l : Launch) (cf : gm_C) (ad : Nat → Nat)  {t : Nat} (ht : gm_isTr t) {a0 : Int32} {S : gm_M} {r : Int32}  (hf : Tr_hasRule t a0 S = some r) : gm_Met l yX9_hasRule cX9_hasRule 2 (some .boolean) 0 0 cf ad gm_sC 106 [.ref (ad t), .int a0] S (some (.int r)) S := by
  refine gm_met (by decide +kernel) (Nat.le_of_ble_eq_true rfl) ?_
  intro p e s m args below meth c C hr
  have C : gm_F p s m args meth c cf ad 106 cX9_hasRule 2 RX9 := C
  refine gm_lve (lv' := [(0, .ref (ad t)), (1, .int a0)]) rfl ?_
  unfold Tr_hasRule at hf
  refine gm_iload_n C dX9_hasRule_0 rfl 1 rfl ?_
  refine gm_if_lt C 16 dX9_hasRule_1 (by decide) (fun c1 => ?_) (fun c1 => ?_)
  · have hf := gm_it _ c1 hf
    refine gm_iconst (v := 0) C dX9_hasRule_16 (by decide) ?_
    exact gm_iretK C hr rfl dX9_hasRule_17 hf
  · have hf := gm_if _ c1 hf
    refine gm_iload_n C dX9_hasRule_4 rfl 1 rfl ?_
    refine gm_aload_n C dX9_hasRule_5 rfl 0 rfl ?_
    refine gm_geti C (gm_tr_l0 ht) (gm_tr_k0 ht) kc_9 (k := 6) rfl (by decide) rfl wl_119 dX9_hasRule_6 ?_
    refine gm_icmp_ge C 16 dX9_hasRule_9 (by decide) (fun c2 => ?_) (fun c2 => ?_)
    · have hf := gm_it _ c2 hf
      refine gm_iconst (v := 0) C dX9_hasRule_16 (by decide) ?_
      exact gm_iretK C hr rfl dX9_hasRule_17 hf
    · have hf := gm_if _ c2 hf
      refine gm_iconst (v := 1) C dX9_hasRule_12 (by decide) ?_
      refine gm_goto C 17 dX9_hasRule_13 (by decide) ?_
      exact gm_iretK C hr rfl dX9_hasRule_17 hf
theorem dX3_countWithout_0 : decode cX3_countWithout 0 = .ok (.iconst 0, 1) := by decide +kernel
theorem dX3_countWithout_1 : decode cX3_countWithout 1 = .ok (.istore_n 2, 1) := by decide +kernel
theorem dX3_countWithout_2 : decode cX3_countWithout 2 = .ok (.iconst 0, 1) := by decide +kernel
theorem dX3_countWithout_3 : decode cX3_countWithout 3 = .ok (.istore_n 3, 1) := by decide +kernel
theorem dX3_countWithout_4 : decode cX3_countWithout 4 = .ok (.iload_n 3, 1) := by decide +kernel
theorem dX3_countWithout_5 : decode cX3_countWithout 5 = .ok (.aload_n 0, 1) := by decide +kernel
theorem dX3_countWithout_6 : decode cX3_countWithout 6 = .ok (.getfield 50, 3) := by decide +kernel
theorem dX3_countWithout_9 : decode cX3_countWithout 9 = .ok (.if_icmp .ge 21, 3) := by decide +kernel
theorem dX3_countWithout_12 : decode cX3_countWithout 12 = .ok (.iload_n 2, 1) := by decide +kernel
theorem dX3_countWithout_13 : decode cX3_countWithout 13 = .ok (.aload_n 0, 1) := by decide +kernel
theorem dX3_countWithout_14 : decode cX3_countWithout 14 = .ok (.iload_n 3, 1) := by decide +kernel
theorem dX3_countWithout_15 : decode cX3_countWithout 15 = .ok (.iload_n 1, 1) := by decide +kernel
theorem dX3_countWithout_16 : decode cX3_countWithout 16 = .ok (.invokevirtual 71, 3) := by decide +kernel
theorem dX3_countWithout_19 : decode cX3_countWithout 19 = .ok (.invokestatic 75, 3) := by decide +kernel
theorem dX3_countWithout_22 : decode cX3_countWithout 22 = .ok (.iadd, 1) := by decide +kernel
theorem dX3_countWithout_23 : decode cX3_countWithout 23 = .ok (.istore_n 2, 1) := by decide +kernel
theorem dX3_countWithout_24 : decode cX3_countWithout 24 = .ok (.iinc 3 1, 3) := by decide +kernel
theorem dX3_countWithout_27 : decode cX3_countWithout 27 = .ok (.goto (-23), 3) := by decide +kernel
theorem dX3_countWithout_30 : decode cX3_countWithout 30 = .ok (.iload_n 2, 1) := by decide +kernel
theorem dX3_countWithout_31 : decode cX3_countWithout 31 = .ok (.ireturn, 1) := by decide +kernel
def Tb_countWithout_L4_b (fl : Nat) (a0 : Int32) (S : gm_M) (rec : Int32 → Int32 → Option (Int32)) (y1 : Int32) (y2 : Int32) : Option (Int32) :=
  if S.1 12 6 ≤ y2 then (
    some (y1)
  ) else (
    gm_bp1 (Tb_joinedWord fl y2 a0 S) fun v5 =>
    gm_bp1 (Lg_bitCount v5) fun v6 =>
    gm_lt (α := Int32) (y1 + v6) fun x7 =>
    gm_lt (α := Int32) (y2 + 1) fun x8 =>
    rec x7 x8
  )
def Tb_countWithout_L4 (fl : Nat) (a0 : Int32) (S : gm_M) : Nat → Int32 → Int32 → Option (Int32)
  | 0 => fun _ _ => none
  | n + 1 => Tb_countWithout_L4_b fl a0 S (Tb_countWithout_L4 fl a0 S n)
def Tb_countWithout (fl : Nat) (a0 : Int32) (S : gm_M) : Option Int32 :=
  gm_bp1 (Tb_countWithout_L4 fl a0 S fl 0 0) fun z3 =>
  some (z3)
set_option maxHeartbeats 4000000 in
set_option maxRecDepth 100000 in
theorem Tb_countWithout_c (l : Launch) (cf : gm_C) (ad : Nat → Nat) {fl : Nat}   {a0 : Int32} {S : gm_M} {r : Int32}  (hf : Tb_countWithout fl a0 S = some r) : gm_Met l yX3_countWithout cX3_countWithout 4 (some .int) 1 28 cf ad gm_sC 106 [.ref (ad 12), .int a0] S (some (.int r)) S := by
  refine gm_met (by decide +kernel) (Nat.le_of_ble_eq_true rfl) ?_
  intro p e s m args below meth c C hr
  have C : gm_F p s m args meth c cf ad 106 cX3_countWithout 4 RX3 := C
  refine gm_lve (lv' := [(0, .ref (ad 12)), (1, .int a0)]) rfl ?_
  unfold Tb_countWithout at hf
  refine gm_iconst (v := 0) C dX3_countWithout_0 (by decide) ?_
  refine gm_istore_n (lv' := [(2, .int 0), (0, .ref (ad 12)), (1, .int a0)]) C dX3_countWithout_1 rfl (by decide) rfl ?_
  refine gm_iconst (v := 0) C dX3_countWithout_2 (by decide) ?_
  refine gm_istore_n (lv' := [(3, .int 0), (2, .int 0), (0, .ref (ad 12)), (1, .int a0)]) C dX3_countWithout_3 rfl (by decide) rfl ?_
  have L4 : ∀ (n : Nat) (y1 : Int32) (y2 : Int32) (z3 : Int32), Tb_countWithout_L4 fl a0 S n y1 y2 = some (z3) → gm_G p l e { frames := 1, cells := 0, slots := 0, locals := 28 } s m args below meth c (MQ below (gm_Q cf ad gm_sC 106 (some (.int r)) S) args s 0 0 (gm_A ad 106)) cf ad gm_sC 106 4 S 30 [(2, .int z3)] [] → gm_G p l e { frames := 1, cells := 0, slots := 0, locals := 28 } s m args below meth c (MQ below (gm_Q cf ad gm_sC 106 (some (.int r)) S) args s 0 0 (gm_A ad 106)) cf ad gm_sC 106 4 S 4 [(0, .ref (ad 12)), (1, .int a0), (2, .int y1), (3, .int y2)] [] := by
    intro n
    induction n with
    | zero => intro y1 y2 z3 hf K; cases (show (none : Option _) = some _ from hf)
    | succ n ih =>
      intro y1 y2 z3 hf K
      have hf : Tb_countWithout_L4_b fl a0 S (Tb_countWithout_L4 fl a0 S n) y1 y2 = some (z3) := hf
      unfold Tb_countWithout_L4_b at hf
      refine gm_iload_n C dX3_countWithout_4 rfl 3 rfl ?_
      refine gm_aload_n C dX3_countWithout_5 rfl 0 rfl ?_
      refine gm_geti C (Nat.le_of_ble_eq_true rfl) rfl kc_3 (k := 6) rfl (by decide) rfl wl_209 dX3_countWithout_6 ?_
      refine gm_icmp_ge C 30 dX3_countWithout_9 (by decide) (fun c4 => ?_) (fun c4 => ?_)
      · have hf := gm_it _ c4 hf
        cases hf
        exact gm_lvp [2] rfl K
      · have hf := gm_if _ c4 hf
        refine gm_iload_n C dX3_countWithout_12 rfl 2 rfl ?_
        refine gm_aload_n C dX3_countWithout_13 rfl 0 rfl ?_
        refine gm_iload_n C dX3_countWithout_14 rfl 3 rfl ?_
        refine gm_iload_n C dX3_countWithout_15 rfl 1 rfl ?_
        obtain ⟨v5, ev5, hf⟩ := gm_bp1_s hf
        refine gm_callVl (As := [.int y2, .int a0]) C (Tb_joinedWord_c l cf ad ev5) (Nat.le_of_ble_eq_true rfl) rfl kc_3 wy_Tb_joinedWord rfl wl_528 rfl ⟨(Nat.le_of_ble_eq_true rfl), (Nat.le_of_ble_eq_true rfl)⟩ rfl (Nat.le_of_ble_eq_true rfl) dX3_countWithout_16 ?_
        obtain ⟨v6, ev6, hf⟩ := gm_bp1_s hf
        refine gm_callSi (As := [.long v5]) C (Lg_bitCount_c l cf ad ev6 (S := S)) wy_Lg_bitCount wl_533 rfl ⟨(Nat.le_of_ble_eq_true rfl), (Nat.le_of_ble_eq_true rfl)⟩ rfl (Nat.le_of_ble_eq_true rfl) dX3_countWithout_19 ?_
        refine gm_iadd C dX3_countWithout_22 ?_
        obtain ⟨x7, ex7, hf⟩ := gm_lt_s hf
        refine gm_topi ex7 ?_
        refine gm_istore_n (lv' := [(2, .int x7), (0, .ref (ad 12)), (1, .int a0), (3, .int y2)]) C dX3_countWithout_23 rfl (by decide) rfl ?_
        obtain ⟨x8, ex8, hf⟩ := gm_lt_s hf
        refine gm_iinc (v := x8) (lv' := [(3, .int x8), (2, .int x7), (0, .ref (ad 12)), (1, .int a0)]) (j := 3) C dX3_countWithout_24 rfl (by rw [ex8]; rfl) (by decide) rfl ?_
        refine gm_goto C 4 dX3_countWithout_27 (by decide) ?_
        exact gm_lvp [2, 3, 1, 0] rfl (ih _ _ _ hf K)
  obtain ⟨z3, hx, hf⟩ := gm_bp1_s hf
  refine gm_lvp [2, 3, 1, 0] rfl (L4 fl _ _ _ hx ?_)
  refine gm_iload_n C dX3_countWithout_30 rfl 0 rfl ?_
  exact gm_iretK C hr rfl dX3_countWithout_31 hf
theorem dX10_ruleOf_0 : decode cX10_ruleOf 0 = .ok (.aload_n 0, 1) := by decide +kernel
theorem dX10_ruleOf_1 : decode cX10_ruleOf 1 = .ok (.getfield 19, 3) := by decide +kernel
theorem dX10_ruleOf_4 : decode cX10_ruleOf 4 = .ok (.iload_n 1, 1) := by decide +kernel
theorem dX10_ruleOf_5 : decode cX10_ruleOf 5 = .ok (.invokevirtual 139, 3) := by decide +kernel
theorem dX10_ruleOf_8 : decode cX10_ruleOf 8 = .ok (.ifCond .ne 6, 3) := by decide +kernel
theorem dX10_ruleOf_11 : decode cX10_ruleOf 11 = .ok (.ldc 143, 2) := by decide +kernel
theorem dX10_ruleOf_13 : decode cX10_ruleOf 13 = .ok (.ireturn, 1) := by decide +kernel
theorem dX10_ruleOf_14 : decode cX10_ruleOf 14 = .ok (.iload_n 2, 1) := by decide +kernel
theorem dX10_ruleOf_15 : decode cX10_ruleOf 15 = .ok (.tableswitch 88 0 3 #[29, 42, 55, 68], 29) := by decide +kernel
theorem dX10_ruleOf_44 : decode cX10_ruleOf 44 = .ok (.aload_n 0, 1) := by decide +kernel
theorem dX10_ruleOf_45 : decode cX10_ruleOf 45 = .ok (.getfield 19, 3) := by decide +kernel
theorem dX10_ruleOf_48 : decode cX10_ruleOf 48 = .ok (.getfield 144, 3) := by decide +kernel
theorem dX10_ruleOf_51 : decode cX10_ruleOf 51 = .ok (.iload_n 1, 1) := by decide +kernel
theorem dX10_ruleOf_52 : decode cX10_ruleOf 52 = .ok (.iaload, 1) := by decide +kernel
theorem dX10_ruleOf_53 : decode cX10_ruleOf 53 = .ok (.invokestatic 148, 3) := by decide +kernel
theorem dX10_ruleOf_56 : decode cX10_ruleOf 56 = .ok (.ireturn, 1) := by decide +kernel
theorem dX10_ruleOf_57 : decode cX10_ruleOf 57 = .ok (.aload_n 0, 1) := by decide +kernel
theorem dX10_ruleOf_58 : decode cX10_ruleOf 58 = .ok (.getfield 19, 3) := by decide +kernel
theorem dX10_ruleOf_61 : decode cX10_ruleOf 61 = .ok (.getfield 144, 3) := by decide +kernel
theorem dX10_ruleOf_64 : decode cX10_ruleOf 64 = .ok (.iload_n 1, 1) := by decide +kernel
theorem dX10_ruleOf_65 : decode cX10_ruleOf 65 = .ok (.iaload, 1) := by decide +kernel
theorem dX10_ruleOf_66 : decode cX10_ruleOf 66 = .ok (.invokestatic 154, 3) := by decide +kernel
theorem dX10_ruleOf_69 : decode cX10_ruleOf 69 = .ok (.ireturn, 1) := by decide +kernel
theorem dX10_ruleOf_70 : decode cX10_ruleOf 70 = .ok (.aload_n 0, 1) := by decide +kernel
theorem dX10_ruleOf_71 : decode cX10_ruleOf 71 = .ok (.getfield 19, 3) := by decide +kernel
theorem dX10_ruleOf_74 : decode cX10_ruleOf 74 = .ok (.getfield 144, 3) := by decide +kernel
theorem dX10_ruleOf_77 : decode cX10_ruleOf 77 = .ok (.iload_n 1, 1) := by decide +kernel
theorem dX10_ruleOf_78 : decode cX10_ruleOf 78 = .ok (.iaload, 1) := by decide +kernel
theorem dX10_ruleOf_79 : decode cX10_ruleOf 79 = .ok (.invokestatic 157, 3) := by decide +kernel
theorem dX10_ruleOf_82 : decode cX10_ruleOf 82 = .ok (.ireturn, 1) := by decide +kernel
theorem dX10_ruleOf_83 : decode cX10_ruleOf 83 = .ok (.ldc 160, 2) := by decide +kernel
theorem dX10_ruleOf_85 : decode cX10_ruleOf 85 = .ok (.aload_n 0, 1) := by decide +kernel
theorem dX10_ruleOf_86 : decode cX10_ruleOf 86 = .ok (.getfield 26, 3) := by decide +kernel
theorem dX10_ruleOf_89 : decode cX10_ruleOf 89 = .ok (.iload_n 1, 1) := by decide +kernel
theorem dX10_ruleOf_90 : decode cX10_ruleOf 90 = .ok (.invokevirtual 161, 3) := by decide +kernel
theorem dX10_ruleOf_93 : decode cX10_ruleOf 93 = .ok (.iadd, 1) := by decide +kernel
theorem dX10_ruleOf_94 : decode cX10_ruleOf 94 = .ok (.aload_n 0, 1) := by decide +kernel
theorem dX10_ruleOf_95 : decode cX10_ruleOf 95 = .ok (.getfield 26, 3) := by decide +kernel
theorem dX10_ruleOf_98 : decode cX10_ruleOf 98 = .ok (.getfield 124, 3) := by decide +kernel
theorem dX10_ruleOf_101 : decode cX10_ruleOf 101 = .ok (.isub, 1) := by decide +kernel
theorem dX10_ruleOf_102 : decode cX10_ruleOf 102 = .ok (.ireturn, 1) := by decide +kernel
theorem dX10_ruleOf_103 : decode cX10_ruleOf 103 = .ok (.ldc 62, 2) := by decide +kernel
theorem dX10_ruleOf_105 : decode cX10_ruleOf 105 = .ok (.ireturn, 1) := by decide +kernel
def Lt_ruleOf (fl : Nat) (a0 : Int32) (a1 : Int32) (S : gm_M) : Option Int32 :=
  gm_bp1 (Tr_hasRule 8 a0 S) fun v1 =>
  if v1 = 0 then (
    some ((-1000000001))
  ) else (
    if a1 = 0 then (
      gm_ck (a0) 4 <|
      gm_bp1 (Ru_kindOf (S.1 9 a0.toNatClampNeg)) fun v5 =>
      some (v5)
    ) else (
    if a1 = 1 then (
      gm_ck (a0) 4 <|
      gm_bp1 (Ru_aOf (S.1 9 a0.toNatClampNeg)) fun v8 =>
      some (v8)
    ) else (
    if a1 = 2 then (
      gm_ck (a0) 4 <|
      gm_bp1 (Ru_bOf (S.1 9 a0.toNatClampNeg)) fun v11 =>
      some (v11)
    ) else (
    if a1 = 3 then (
      gm_bp1 (Tb_countWithout fl a0 S) fun v13 =>
      some ((100000 + v13) - (S.1 12 9))
    ) else (
      some ((-1000000002))
    ))))
  )
set_option maxHeartbeats 4000000 in
set_option maxRecDepth 100000 in
theorem Lt_ruleOf_c (l : Launch) (cf : gm_C) (ad : Nat → Nat) {fl : Nat}   {a0 : Int32} {a1 : Int32} {S : gm_M} {r : Int32}  (hf : Lt_ruleOf fl a0 a1 S = some r) : gm_Met l yX10_ruleOf cX10_ruleOf 3 (some .int) 2 51 cf ad gm_sC 106 [.ref (ad 0), .int a0, .int a1] S (some (.int r)) S := by
  refine gm_met (by decide +kernel) (Nat.le_of_ble_eq_true rfl) ?_
  intro p e s m args below meth c C hr
  have C : gm_F p s m args meth c cf ad 106 cX10_ruleOf 3 RX10 := C
  refine gm_lve (lv' := [(0, .ref (ad 0)), (1, .int a0), (2, .int a1)]) rfl ?_
  unfold Lt_ruleOf at hf
  refine gm_aload_n C dX10_ruleOf_0 rfl 0 rfl ?_
  refine gm_getr (j := 8) (u := 8) C (Nat.le_of_ble_eq_true rfl) rfl kc_10 (k := 1) rfl (by decide) rfl rfl wl_329 dX10_ruleOf_1 ?_
  refine gm_iload_n C dX10_ruleOf_4 rfl 1 rfl ?_
  obtain ⟨v1, ev1, hf⟩ := gm_bp1_s hf
  refine gm_callVi (As := [.int a0]) C (Tr_hasRule_c l cf ad gm_tr_8 ev1) (Nat.le_of_ble_eq_true rfl) rfl kc_9 wy_Tr_hasRule rfl wl_613 rfl ⟨(Nat.le_of_ble_eq_true rfl), (Nat.le_of_ble_eq_true rfl)⟩ rfl (Nat.le_of_ble_eq_true rfl) dX10_ruleOf_5 ?_
  refine gm_if_ne C 14 dX10_ruleOf_8 (by decide) (fun c2 => ?_) (fun c2 => ?_)
  · have hf := gm_if _ c2 hf
    refine gm_iload_n C dX10_ruleOf_14 rfl 2 rfl ?_
    by_cases c3 : a1 = 0
    · have hf := gm_it _ c3 hf
      refine gm_tableIn C 44 dX10_ruleOf_15 (by rw [c3]; decide) (by rw [c3]; decide) (by rw [c3]; rfl) (by decide) ?_
      refine gm_aload_n C dX10_ruleOf_44 rfl 0 rfl ?_
      refine gm_getr (j := 8) (u := 8) C (Nat.le_of_ble_eq_true rfl) rfl kc_10 (k := 1) rfl (by decide) rfl rfl wl_329 dX10_ruleOf_45 ?_
      refine gm_getr (j := 1) (u := 9) C (Nat.le_of_ble_eq_true rfl) rfl kc_9 (k := 0) rfl (by decide) rfl rfl wl_106 dX10_ruleOf_48 ?_
      refine gm_iload_n C dX10_ruleOf_51 rfl 1 rfl ?_
      obtain ⟨h4, hf⟩ := gm_ck_s hf
      refine gm_iald C (Nat.le_of_ble_eq_true rfl) rfl rfl h4 dX10_ruleOf_52 ?_
      obtain ⟨v5, ev5, hf⟩ := gm_bp1_s hf
      refine gm_callSi (As := [.int (S.1 9 a0.toNatClampNeg)]) C (Ru_kindOf_c l cf ad ev5 (S := S)) wy_Ru_kindOf wl_618 rfl ⟨(Nat.le_of_ble_eq_true rfl), (Nat.le_of_ble_eq_true rfl)⟩ rfl (Nat.le_of_ble_eq_true rfl) dX10_ruleOf_53 ?_
      exact gm_iretK C hr rfl dX10_ruleOf_56 hf
    · have hf := gm_if _ c3 hf
      by_cases c6 : a1 = 1
      · have hf := gm_it _ c6 hf
        refine gm_tableIn C 57 dX10_ruleOf_15 (by rw [c6]; decide) (by rw [c6]; decide) (by rw [c6]; rfl) (by decide) ?_
        refine gm_aload_n C dX10_ruleOf_57 rfl 0 rfl ?_
        refine gm_getr (j := 8) (u := 8) C (Nat.le_of_ble_eq_true rfl) rfl kc_10 (k := 1) rfl (by decide) rfl rfl wl_329 dX10_ruleOf_58 ?_
        refine gm_getr (j := 1) (u := 9) C (Nat.le_of_ble_eq_true rfl) rfl kc_9 (k := 0) rfl (by decide) rfl rfl wl_106 dX10_ruleOf_61 ?_
        refine gm_iload_n C dX10_ruleOf_64 rfl 1 rfl ?_
        obtain ⟨h7, hf⟩ := gm_ck_s hf
        refine gm_iald C (Nat.le_of_ble_eq_true rfl) rfl rfl h7 dX10_ruleOf_65 ?_
        obtain ⟨v8, ev8, hf⟩ := gm_bp1_s hf
        refine gm_callSi (As := [.int (S.1 9 a0.toNatClampNeg)]) C (Ru_aOf_c l cf ad ev8 (S := S)) wy_Ru_aOf wl_619 rfl ⟨(Nat.le_of_ble_eq_true rfl), (Nat.le_of_ble_eq_true rfl)⟩ rfl (Nat.le_of_ble_eq_true rfl) dX10_ruleOf_66 ?_
        exact gm_iretK C hr rfl dX10_ruleOf_69 hf
      · have hf := gm_if _ c6 hf
        by_cases c9 : a1 = 2
        · have hf := gm_it _ c9 hf
          refine gm_tableIn C 70 dX10_ruleOf_15 (by rw [c9]; decide) (by rw [c9]; decide) (by rw [c9]; rfl) (by decide) ?_
          refine gm_aload_n C dX10_ruleOf_70 rfl 0 rfl ?_
          refine gm_getr (j := 8) (u := 8) C (Nat.le_of_ble_eq_true rfl) rfl kc_10 (k := 1) rfl (by decide) rfl rfl wl_329 dX10_ruleOf_71 ?_
          refine gm_getr (j := 1) (u := 9) C (Nat.le_of_ble_eq_true rfl) rfl kc_9 (k := 0) rfl (by decide) rfl rfl wl_106 dX10_ruleOf_74 ?_
          refine gm_iload_n C dX10_ruleOf_77 rfl 1 rfl ?_
          obtain ⟨h10, hf⟩ := gm_ck_s hf
          refine gm_iald C (Nat.le_of_ble_eq_true rfl) rfl rfl h10 dX10_ruleOf_78 ?_
          obtain ⟨v11, ev11, hf⟩ := gm_bp1_s hf
          refine gm_callSi (As := [.int (S.1 9 a0.toNatClampNeg)]) C (Ru_bOf_c l cf ad ev11 (S := S)) wy_Ru_bOf wl_620 rfl ⟨(Nat.le_of_ble_eq_true rfl), (Nat.le_of_ble_eq_true rfl)⟩ rfl (Nat.le_of_ble_eq_true rfl) dX10_ruleOf_79 ?_
          exact gm_iretK C hr rfl dX10_ruleOf_82 hf
        · have hf := gm_if _ c9 hf
          by_cases c12 : a1 = 3
          · have hf := gm_it _ c12 hf
            refine gm_tableIn C 83 dX10_ruleOf_15 (by rw [c12]; decide) (by rw [c12]; decide) (by rw [c12]; rfl) (by decide) ?_
            refine gm_ldc (v := 100000) C wl_621 dX10_ruleOf_83 ?_
            refine gm_aload_n C dX10_ruleOf_85 rfl 0 rfl ?_
            refine gm_getr (j := 12) (u := 12) C (Nat.le_of_ble_eq_true rfl) rfl kc_10 (k := 2) rfl (by decide) rfl rfl wl_330 dX10_ruleOf_86 ?_
            refine gm_iload_n C dX10_ruleOf_89 rfl 1 rfl ?_
            obtain ⟨v13, ev13, hf⟩ := gm_bp1_s hf
            refine gm_callVi (As := [.int a0]) C (Tb_countWithout_c l cf ad ev13) (Nat.le_of_ble_eq_true rfl) rfl kc_3 wy_Tb_countWithout rfl wl_622 rfl ⟨(Nat.le_of_ble_eq_true rfl), (Nat.le_of_ble_eq_true rfl)⟩ rfl (Nat.le_of_ble_eq_true rfl) dX10_ruleOf_90 ?_
            refine gm_iadd C dX10_ruleOf_93 ?_
            refine gm_aload_n C dX10_ruleOf_94 rfl 0 rfl ?_
            refine gm_getr (j := 12) (u := 12) C (Nat.le_of_ble_eq_true rfl) rfl kc_10 (k := 2) rfl (by decide) rfl rfl wl_330 dX10_ruleOf_95 ?_
            refine gm_geti C (Nat.le_of_ble_eq_true rfl) rfl kc_3 (k := 9) rfl (by decide) rfl wl_213 dX10_ruleOf_98 ?_
            refine gm_isub C dX10_ruleOf_101 ?_
            exact gm_iretK C hr rfl dX10_ruleOf_102 hf
          · have hf := gm_if _ c12 hf
            have nc3 : (a1).toInt ≠ 0 := gm_nt c3
            have nc6 : (a1).toInt ≠ 1 := gm_nt c6
            have nc9 : (a1).toInt ≠ 2 := gm_nt c9
            have nc12 : (a1).toInt ≠ 3 := gm_nt c12
            refine gm_tableOut C 103 dX10_ruleOf_15 (by omega) (by decide) ?_
            refine gm_ldc (v := (-1000000002)) C wl_360 dX10_ruleOf_103 ?_
            exact gm_iretK C hr rfl dX10_ruleOf_105 hf
  · have hf := gm_it _ c2 hf
    refine gm_ldc (v := (-1000000001)) C wl_617 dX10_ruleOf_11 ?_
    exact gm_iretK C hr rfl dX10_ruleOf_13 hf
