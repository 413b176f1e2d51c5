theorem dX9_numbers_0 : decode cX9_numbers 0 = .ok (.aload_n 0, 1) := by decide +kernel
theorem dX9_numbers_1 : decode cX9_numbers 1 = .ok (.getfield 21, 3) := by decide +kernel
theorem dX9_numbers_4 : decode cX9_numbers 4 = .ok (.ifCond .ne 7, 3) := by decide +kernel
theorem dX9_numbers_7 : decode cX9_numbers 7 = .ok (.iconst 0, 1) := by decide +kernel
theorem dX9_numbers_8 : decode cX9_numbers 8 = .ok (.goto 4, 3) := by decide +kernel
theorem dX9_numbers_11 : decode cX9_numbers 11 = .ok (.iconst 1, 1) := by decide +kernel
theorem dX9_numbers_12 : decode cX9_numbers 12 = .ok (.istore_n 1, 1) := by decide +kernel
theorem dX9_numbers_13 : decode cX9_numbers 13 = .ok (.iconst 0, 1) := by decide +kernel
theorem dX9_numbers_14 : decode cX9_numbers 14 = .ok (.istore_n 2, 1) := by decide +kernel
theorem dX9_numbers_15 : decode cX9_numbers 15 = .ok (.iload_n 2, 1) := by decide +kernel
theorem dX9_numbers_16 : decode cX9_numbers 16 = .ok (.aload_n 0, 1) := by decide +kernel
theorem dX9_numbers_17 : decode cX9_numbers 17 = .ok (.getfield 21, 3) := by decide +kernel
theorem dX9_numbers_20 : decode cX9_numbers 20 = .ok (.if_icmp .ge 19, 3) := by decide +kernel
theorem dX9_numbers_23 : decode cX9_numbers 23 = .ok (.iload_n 2, 1) := by decide +kernel
theorem dX9_numbers_24 : decode cX9_numbers 24 = .ok (.iconst 4, 1) := by decide +kernel
theorem dX9_numbers_25 : decode cX9_numbers 25 = .ok (.if_icmp .ge 14, 3) := by decide +kernel
theorem dX9_numbers_28 : decode cX9_numbers 28 = .ok (.iload_n 1, 1) := by decide +kernel
theorem dX9_numbers_29 : decode cX9_numbers 29 = .ok (.bipush 10, 2) := by decide +kernel
theorem dX9_numbers_31 : decode cX9_numbers 31 = .ok (.imul, 1) := by decide +kernel
theorem dX9_numbers_32 : decode cX9_numbers 32 = .ok (.istore_n 1, 1) := by decide +kernel
theorem dX9_numbers_33 : decode cX9_numbers 33 = .ok (.iinc 2 1, 3) := by decide +kernel
theorem dX9_numbers_36 : decode cX9_numbers 36 = .ok (.goto (-21), 3) := by decide +kernel
theorem dX9_numbers_39 : decode cX9_numbers 39 = .ok (.iload_n 1, 1) := by decide +kernel
theorem dX9_numbers_40 : decode cX9_numbers 40 = .ok (.ireturn, 1) := by decide +kernel
def Tr_numbers_L15_b (t : Nat) (S : gm_M) (rec : Int32 → Int32 → Option (Int32)) (y2 : Int32) (y3 : Int32) : Option (Int32) :=
  if S.1 t 3 ≤ y3 then (
    some (y2)
  ) else (
    if (4 : Int32) ≤ y3 then (
      some (y2)
    ) else (
      gm_lt (α := Int32) (y2 * 10) fun x7 =>
      gm_lt (α := Int32) (y3 + 1) fun x8 =>
      rec x7 x8
    )
  )
def Tr_numbers_L15 (t : Nat) (S : gm_M) : Nat → Int32 → Int32 → Option (Int32)
  | 0 => fun _ _ => none
  | n + 1 => Tr_numbers_L15_b t S (Tr_numbers_L15 t S n)
def Tr_numbers (fl : Nat) (t : Nat) (S : gm_M) : Option Int32 :=
  gm_bp1 (show Option (Int32) from
    if S.1 t 3 = 0 then (
      some (0)
    ) else (
      some (1)
    )
  ) fun x1 =>
  gm_bp1 (Tr_numbers_L15 t S fl x1 0) fun z4 =>
  some (z4)
set_option maxHeartbeats 4000000 in
set_option maxRecDepth 100000 in
theorem Tr_numbers_c (l : Launch) (cf : gm_C) (ad : Nat → Nat) {fl : Nat} {t : Nat} (ht : gm_isTr t)  {S : gm_M} {r : Int32}  (hf : Tr_numbers fl t S = some r) : gm_Met l yX9_numbers cX9_numbers 3 (some .int) 0 0 cf ad gm_sC 106 [.ref (ad t)] S (some (.int r)) S := by
  refine gm_met (by decide +kernel) (Nat.le_of_ble_eq_true rfl) ?_
  intro p e s m args below meth c C hr
  have C : gm_F p s m args meth c cf ad 106 cX9_numbers 3 RX9 := C
  refine gm_lve (lv' := [(0, .ref (ad t))]) rfl ?_
  unfold Tr_numbers at hf
  refine gm_aload_n C dX9_numbers_0 rfl 0 rfl ?_
  refine gm_geti C (gm_tr_l0 ht) (gm_tr_k0 ht) kc_9 (k := 3) rfl (by decide) rfl wl_109 dX9_numbers_1 ?_
  obtain ⟨x1, hx, hf⟩ := gm_bp1_s hf
  have key : gm_G p l e { frames := 0, cells := 0, slots := 0, locals := 0 } s m args below meth c (MQ below (gm_Q cf ad gm_sC 106 (some (.int r)) S) args s 0 0 (gm_A ad 106)) cf ad gm_sC 106 3 S 12 [(0, .ref (ad t))] [.int x1] := by
    refine gm_istore_n (lv' := [(1, .int x1), (0, .ref (ad t))]) C dX9_numbers_12 rfl (by decide) rfl ?_
    refine gm_iconst (v := 0) C dX9_numbers_13 (by decide) ?_
    refine gm_istore_n (lv' := [(2, .int 0), (1, .int x1), (0, .ref (ad t))]) C dX9_numbers_14 rfl (by decide) rfl ?_
    have L15 : ∀ (n : Nat) (y2 : Int32) (y3 : Int32) (z4 : Int32), Tr_numbers_L15 t S n y2 y3 = some (z4) → gm_G p l e { frames := 0, cells := 0, slots := 0, locals := 0 } s m args below meth c (MQ below (gm_Q cf ad gm_sC 106 (some (.int r)) S) args s 0 0 (gm_A ad 106)) cf ad gm_sC 106 3 S 39 [(1, .int z4)] [] → gm_G p l e { frames := 0, cells := 0, slots := 0, locals := 0 } s m args below meth c (MQ below (gm_Q cf ad gm_sC 106 (some (.int r)) S) args s 0 0 (gm_A ad 106)) cf ad gm_sC 106 3 S 15 [(0, .ref (ad t)), (1, .int y2), (2, .int y3)] [] := by
      intro n
      induction n with
      | zero => intro y2 y3 z4 hf K; cases (show (none : Option _) = some _ from hf)
      | succ n ih =>
        intro y2 y3 z4 hf K
        have hf : Tr_numbers_L15_b t S (Tr_numbers_L15 t S n) y2 y3 = some (z4) := hf
        unfold Tr_numbers_L15_b at hf
        refine gm_iload_n C dX9_numbers_15 rfl 2 rfl ?_
        refine gm_aload_n C dX9_numbers_16 rfl 0 rfl ?_
        refine gm_geti C (gm_tr_l0 ht) (gm_tr_k0 ht) kc_9 (k := 3) rfl (by decide) rfl wl_109 dX9_numbers_17 ?_
        refine gm_icmp_ge C 39 dX9_numbers_20 (by decide) (fun c5 => ?_) (fun c5 => ?_)
        · have hf := gm_it _ c5 hf
          cases hf
          exact gm_lvp [1] rfl K
        · have hf := gm_if _ c5 hf
          refine gm_iload_n C dX9_numbers_23 rfl 2 rfl ?_
          refine gm_iconst (v := 4) C dX9_numbers_24 (by decide) ?_
          refine gm_icmp_ge C 39 dX9_numbers_25 (by decide) (fun c6 => ?_) (fun c6 => ?_)
          · have hf := gm_it _ c6 hf
            cases hf
            exact gm_lvp [1] rfl K
          · have hf := gm_if _ c6 hf
            refine gm_iload_n C dX9_numbers_28 rfl 1 rfl ?_
            refine gm_bipush (v := 10) C dX9_numbers_29 (by decide) ?_
            refine gm_imul C dX9_numbers_31 ?_
            obtain ⟨x7, ex7, hf⟩ := gm_lt_s hf
            refine gm_topi ex7 ?_
            refine gm_istore_n (lv' := [(1, .int x7), (0, .ref (ad t)), (2, .int y3)]) C dX9_numbers_32 rfl (by decide) rfl ?_
            obtain ⟨x8, ex8, hf⟩ := gm_lt_s hf
            refine gm_iinc (v := x8) (lv' := [(2, .int x8), (1, .int x7), (0, .ref (ad t))]) (j := 2) C dX9_numbers_33 rfl (by rw [ex8]; rfl) (by decide) rfl ?_
            refine gm_goto C 15 dX9_numbers_36 (by decide) ?_
            exact gm_lvp [2, 1, 0] rfl (ih _ _ _ hf K)
    obtain ⟨z4, hx, hf⟩ := gm_bp1_s hf
    refine gm_lvp [2, 1, 0] rfl (L15 fl _ _ _ hx ?_)
    refine gm_iload_n C dX9_numbers_39 rfl 0 rfl ?_
    exact gm_iretK C hr rfl dX9_numbers_40 hf
  have hf := hx
  refine gm_if_ne C 11 dX9_numbers_4 (by decide) (fun c9 => ?_) (fun c9 => ?_)
  · have hf := gm_if _ c9 hf
    refine gm_iconst (v := 1) C dX9_numbers_11 (by decide) ?_
    cases hf
    exact gm_lvp [0] rfl key
  · have hf := gm_it _ c9 hf
    refine gm_iconst (v := 0) C dX9_numbers_7 (by decide) ?_
    refine gm_goto C 12 dX9_numbers_8 (by decide) ?_
    cases hf
    exact gm_lvp [0] rfl key
theorem dX9_putRoll_0 : decode cX9_putRoll 0 = .ok (.aload_n 0, 1) := by decide +kernel
theorem dX9_putRoll_1 : decode cX9_putRoll 1 = .ok (.getfield 15, 3) := by decide +kernel
theorem dX9_putRoll_4 : decode cX9_putRoll 4 = .ok (.iload_n 1, 1) := by decide +kernel
theorem dX9_putRoll_5 : decode cX9_putRoll 5 = .ok (.iconst 2, 1) := by decide +kernel
theorem dX9_putRoll_6 : decode cX9_putRoll 6 = .ok (.imul, 1) := by decide +kernel
theorem dX9_putRoll_7 : decode cX9_putRoll 7 = .ok (.iload_n 2, 1) := by decide +kernel
theorem dX9_putRoll_8 : decode cX9_putRoll 8 = .ok (.iastore, 1) := by decide +kernel
theorem dX9_putRoll_9 : decode cX9_putRoll 9 = .ok (.aload_n 0, 1) := by decide +kernel
theorem dX9_putRoll_10 : decode cX9_putRoll 10 = .ok (.getfield 15, 3) := by decide +kernel
theorem dX9_putRoll_13 : decode cX9_putRoll 13 = .ok (.iload_n 1, 1) := by decide +kernel
theorem dX9_putRoll_14 : decode cX9_putRoll 14 = .ok (.iconst 2, 1) := by decide +kernel
theorem dX9_putRoll_15 : decode cX9_putRoll 15 = .ok (.imul, 1) := by decide +kernel
theorem dX9_putRoll_16 : decode cX9_putRoll 16 = .ok (.iconst 1, 1) := by decide +kernel
theorem dX9_putRoll_17 : decode cX9_putRoll 17 = .ok (.iadd, 1) := by decide +kernel
theorem dX9_putRoll_18 : decode cX9_putRoll 18 = .ok (.iload_n 3, 1) := by decide +kernel
theorem dX9_putRoll_19 : decode cX9_putRoll 19 = .ok (.iastore, 1) := by decide +kernel
theorem dX9_putRoll_20 : decode cX9_putRoll 20 = .ok (.return_, 1) := by decide +kernel
def Tr_putRoll (t : Nat) (a0 : Int32) (a1 : Int32) (a2 : Int32) (S : gm_M) : Option gm_M :=
  gm_ck (a0 * 2) 8 <|
  gm_lt (α := gm_M) (gm_ui S (t + 2) ((a0 * 2).toNatClampNeg) a1) fun S2 =>
  gm_ck ((a0 * 2) + 1) 8 <|
  gm_lt (α := gm_M) (gm_ui S2 (t + 2) (((a0 * 2) + 1).toNatClampNeg) a2) fun S4 =>
  some S4
set_option maxHeartbeats 4000000 in
set_option maxRecDepth 100000 in
theorem Tr_putRoll_c (l : Launch) (cf : gm_C) (ad : Nat → Nat)  {t : Nat} (ht : gm_isTr t) {a0 : Int32} {a1 : Int32} {a2 : Int32} {S : gm_M}  {S'  : gm_M} (hf : Tr_putRoll t a0 a1 a2 S = some S') : gm_Met l yX9_putRoll cX9_putRoll 4 none 0 0 cf ad gm_sC 106 [.ref (ad t), .int a0, .int a1, .int a2] S none S' := by
  refine gm_met (by decide +kernel) (Nat.le_of_ble_eq_true rfl) ?_
  intro p e s m args below meth c C hr
  have C : gm_F p s m args meth c cf ad 106 cX9_putRoll 4 RX9 := C
  refine gm_lve (lv' := [(0, .ref (ad t)), (1, .int a0), (2, .int a1), (3, .int a2)]) rfl ?_
  unfold Tr_putRoll at hf
  refine gm_aload_n C dX9_putRoll_0 rfl 0 rfl ?_
  refine gm_getr (j := 2) (u := (t + 2)) C (gm_tr_l0 ht) (gm_tr_k0 ht) kc_9 (k := 1) rfl (by decide) rfl rfl wl_107 dX9_putRoll_1 ?_
  refine gm_iload_n C dX9_putRoll_4 rfl 1 rfl ?_
  refine gm_iconst (v := 2) C dX9_putRoll_5 (by decide) ?_
  refine gm_imul C dX9_putRoll_6 ?_
  refine gm_iload_n C dX9_putRoll_7 rfl 2 rfl ?_
  obtain ⟨h1, hf⟩ := gm_ck_s hf
  refine gm_iast C (gm_tr_l2 ht) (gm_tr_k2 ht) (gm_tr_n2 ht) h1 dX9_putRoll_8 ?_
  obtain ⟨S2, eS2, hf⟩ := gm_lt_s hf
  refine gm_topm eS2 ?_
  refine gm_aload_n C dX9_putRoll_9 rfl 0 rfl ?_
  refine gm_getr (j := 2) (u := (t + 2)) C (gm_tr_l0 ht) (gm_tr_k0 ht) kc_9 (k := 1) rfl (by decide) rfl rfl wl_107 dX9_putRoll_10 ?_
  refine gm_iload_n C dX9_putRoll_13 rfl 1 rfl ?_
  refine gm_iconst (v := 2) C dX9_putRoll_14 (by decide) ?_
  refine gm_imul C dX9_putRoll_15 ?_
  refine gm_iconst (v := 1) C dX9_putRoll_16 (by decide) ?_
  refine gm_iadd C dX9_putRoll_17 ?_
  refine gm_iload_n C dX9_putRoll_18 rfl 3 rfl ?_
  obtain ⟨h3, hf⟩ := gm_ck_s hf
  refine gm_iast C (gm_tr_l2 ht) (gm_tr_k2 ht) (gm_tr_n2 ht) h3 dX9_putRoll_19 ?_
  obtain ⟨S4, eS4, hf⟩ := gm_lt_s hf
  refine gm_topm eS4 ?_
  exact gm_vret C hr dX9_putRoll_20 hf
theorem dX9_addRoll_0 : decode cX9_addRoll 0 = .ok (.aload_n 0, 1) := by decide +kernel
theorem dX9_addRoll_1 : decode cX9_addRoll 1 = .ok (.getfield 34, 3) := by decide +kernel
theorem dX9_addRoll_4 : decode cX9_addRoll 4 = .ok (.iconst 4, 1) := by decide +kernel
theorem dX9_addRoll_5 : decode cX9_addRoll 5 = .ok (.if_icmp .ge 23, 3) := by decide +kernel
theorem dX9_addRoll_8 : decode cX9_addRoll 8 = .ok (.aload_n 0, 1) := by decide +kernel
theorem dX9_addRoll_9 : decode cX9_addRoll 9 = .ok (.aload_n 0, 1) := by decide +kernel
theorem dX9_addRoll_10 : decode cX9_addRoll 10 = .ok (.getfield 34, 3) := by decide +kernel
theorem dX9_addRoll_13 : decode cX9_addRoll 13 = .ok (.iload_n 1, 1) := by decide +kernel
theorem dX9_addRoll_14 : decode cX9_addRoll 14 = .ok (.iload_n 2, 1) := by decide +kernel
theorem dX9_addRoll_15 : decode cX9_addRoll 15 = .ok (.invokevirtual 46, 3) := by decide +kernel
theorem dX9_addRoll_18 : decode cX9_addRoll 18 = .ok (.aload_n 0, 1) := by decide +kernel
theorem dX9_addRoll_19 : decode cX9_addRoll 19 = .ok (.dup, 1) := by decide +kernel
theorem dX9_addRoll_20 : decode cX9_addRoll 20 = .ok (.getfield 34, 3) := by decide +kernel
theorem dX9_addRoll_23 : decode cX9_addRoll 23 = .ok (.iconst 1, 1) := by decide +kernel
theorem dX9_addRoll_24 : decode cX9_addRoll 24 = .ok (.iadd, 1) := by decide +kernel
theorem dX9_addRoll_25 : decode cX9_addRoll 25 = .ok (.putfield 34, 3) := by decide +kernel
theorem dX9_addRoll_28 : decode cX9_addRoll 28 = .ok (.return_, 1) := by decide +kernel
def Tr_addRoll (t : Nat) (a0 : Int32) (a1 : Int32) (S : gm_M) : Option gm_M :=
  if (4 : Int32) ≤ S.1 t 7 then (
    some S
  ) else (
    gm_bp1 (Tr_putRoll t (S.1 t 7) a0 a1 S) fun S2 =>
    gm_lt (α := gm_M) (gm_ui S2 t 7 ((S2.1 t 7) + 1)) fun S3 =>
    some S3
  )
set_option maxHeartbeats 4000000 in
set_option maxRecDepth 100000 in
theorem Tr_addRoll_c (l : Launch) (cf : gm_C) (ad : Nat → Nat)  {t : Nat} (ht : gm_isTr t) {a0 : Int32} {a1 : Int32} {S : gm_M}  {S'  : gm_M} (hf : Tr_addRoll t a0 a1 S = some S') : gm_Met l yX9_addRoll cX9_addRoll 3 none 1 23 cf ad gm_sC 106 [.ref (ad t), .int a0, .int a1] S none S' := by
  refine gm_met (by decide +kernel) (Nat.le_of_ble_eq_true rfl) ?_
  intro p e s m args below meth c C hr
  have C : gm_F p s m args meth c cf ad 106 cX9_addRoll 3 RX9 := C
  refine gm_lve (lv' := [(0, .ref (ad t)), (1, .int a0), (2, .int a1)]) rfl ?_
  unfold Tr_addRoll at hf
  refine gm_aload_n C dX9_addRoll_0 rfl 0 rfl ?_
  refine gm_geti C (gm_tr_l0 ht) (gm_tr_k0 ht) kc_9 (k := 7) rfl (by decide) rfl wl_123 dX9_addRoll_1 ?_
  refine gm_iconst (v := 4) C dX9_addRoll_4 (by decide) ?_
  refine gm_icmp_ge C 28 dX9_addRoll_5 (by decide) (fun c1 => ?_) (fun c1 => ?_)
  · have hf := gm_it _ c1 hf
    exact gm_vret C hr dX9_addRoll_28 hf
  · have hf := gm_if _ c1 hf
    refine gm_aload_n C dX9_addRoll_8 rfl 0 rfl ?_
    refine gm_aload_n C dX9_addRoll_9 rfl 0 rfl ?_
    refine gm_geti C (gm_tr_l0 ht) (gm_tr_k0 ht) kc_9 (k := 7) rfl (by decide) rfl wl_123 dX9_addRoll_10 ?_
    refine gm_iload_n C dX9_addRoll_13 rfl 1 rfl ?_
    refine gm_iload_n C dX9_addRoll_14 rfl 2 rfl ?_
    obtain ⟨S2, eS2, hf⟩ := gm_bp1_s hf
    refine gm_callVv (As := [.int (S.1 t 7), .int a0, .int a1]) C (Tr_putRoll_c l cf ad ht eS2) (gm_tr_l0 ht) (gm_tr_k0 ht) kc_9 wy_Tr_putRoll rfl wl_457 rfl ⟨(Nat.le_of_ble_eq_true rfl), (Nat.le_of_ble_eq_true rfl)⟩ rfl (Nat.le_of_ble_eq_true rfl) dX9_addRoll_15 ?_
    refine gm_aload_n C dX9_addRoll_18 rfl 0 rfl ?_
    refine gm_dup C dX9_addRoll_19 rfl ?_
    refine gm_geti C (gm_tr_l0 ht) (gm_tr_k0 ht) kc_9 (k := 7) rfl (by decide) rfl wl_123 dX9_addRoll_20 ?_
    refine gm_iconst (v := 1) C dX9_addRoll_23 (by decide) ?_
    refine gm_iadd C dX9_addRoll_24 ?_
    refine gm_puti C (gm_tr_l0 ht) (gm_tr_k0 ht) kc_9 (k := 7) rfl (by decide) rfl rfl (kc_9.2.2.2.1 7 (by decide)) rfl rfl wl_123 dX9_addRoll_25 ?_
    obtain ⟨S3, eS3, hf⟩ := gm_lt_s hf
    refine gm_topm eS3 ?_
    exact gm_vret C hr dX9_addRoll_28 hf
theorem dX5_readRoll_0 : decode cX5_readRoll 0 = .ok (.aload_n 0, 1) := by decide +kernel
theorem dX5_readRoll_1 : decode cX5_readRoll 1 = .ok (.iconst 0, 1) := by decide +kernel
theorem dX5_readRoll_2 : decode cX5_readRoll 2 = .ok (.aload_n 0, 1) := by decide +kernel
theorem dX5_readRoll_3 : decode cX5_readRoll 3 = .ok (.getfield 21, 3) := by decide +kernel
theorem dX5_readRoll_6 : decode cX5_readRoll 6 = .ok (.invokevirtual 120, 3) := by decide +kernel
theorem dX5_readRoll_9 : decode cX5_readRoll 9 = .ok (.iconst 1, 1) := by decide +kernel
theorem dX5_readRoll_10 : decode cX5_readRoll 10 = .ok (.isub, 1) := by decide +kernel
theorem dX5_readRoll_11 : decode cX5_readRoll 11 = .ok (.invokevirtual 96, 3) := by decide +kernel
theorem dX5_readRoll_14 : decode cX5_readRoll 14 = .ok (.istore_n 1, 1) := by decide +kernel
theorem dX5_readRoll_15 : decode cX5_readRoll 15 = .ok (.aload_n 0, 1) := by decide +kernel
theorem dX5_readRoll_16 : decode cX5_readRoll 16 = .ok (.iconst 0, 1) := by decide +kernel
theorem dX5_readRoll_17 : decode cX5_readRoll 17 = .ok (.sipush 200, 3) := by decide +kernel
theorem dX5_readRoll_20 : decode cX5_readRoll 20 = .ok (.invokevirtual 96, 3) := by decide +kernel
theorem dX5_readRoll_23 : decode cX5_readRoll 23 = .ok (.istore_n 2, 1) := by decide +kernel
theorem dX5_readRoll_24 : decode cX5_readRoll 24 = .ok (.aload_n 0, 1) := by decide +kernel
theorem dX5_readRoll_25 : decode cX5_readRoll 25 = .ok (.getfield 32, 3) := by decide +kernel
theorem dX5_readRoll_28 : decode cX5_readRoll 28 = .ok (.ifCond .ne 12, 3) := by decide +kernel
theorem dX5_readRoll_31 : decode cX5_readRoll 31 = .ok (.aload_n 0, 1) := by decide +kernel
theorem dX5_readRoll_32 : decode cX5_readRoll 32 = .ok (.getfield 21, 3) := by decide +kernel
theorem dX5_readRoll_35 : decode cX5_readRoll 35 = .ok (.iload_n 1, 1) := by decide +kernel
theorem dX5_readRoll_36 : decode cX5_readRoll 36 = .ok (.iload_n 2, 1) := by decide +kernel
theorem dX5_readRoll_37 : decode cX5_readRoll 37 = .ok (.invokevirtual 124, 3) := by decide +kernel
theorem dX5_readRoll_40 : decode cX5_readRoll 40 = .ok (.return_, 1) := by decide +kernel
def Rd_readRoll (fl : Nat) (S : gm_M) : Option gm_M :=
  gm_bp1 (Tr_numbers fl 4 S) fun v1 =>
  gm_bp2 (Rd_readNumber fl 0 (v1 - 1) S) fun v2 S3 =>
  gm_bp2 (Rd_readNumber fl 0 200 S3) fun v4 S5 =>
  if S5.1 1 4 = 0 then (
    gm_bp1 (Tr_addRoll 4 v2 v4 S5) fun S7 =>
    some S7
  ) else (
    some S5
  )
set_option maxHeartbeats 4000000 in
set_option maxRecDepth 100000 in
theorem Rd_readRoll_c (l : Launch) (cf : gm_C) (ad : Nat → Nat) {fl : Nat}    {S : gm_M}  {S'  : gm_M} (hf : Rd_readRoll fl S = some S') : gm_Met l yX5_readRoll cX5_readRoll 3 none 3 66 cf ad gm_sC 106 [.ref (ad 1)] S none S' := by
  refine gm_met (by decide +kernel) (Nat.le_of_ble_eq_true rfl) ?_
  intro p e s m args below meth c C hr
  have C : gm_F p s m args meth c cf ad 106 cX5_readRoll 3 RX5 := C
  refine gm_lve (lv' := [(0, .ref (ad 1))]) rfl ?_
  unfold Rd_readRoll at hf
  refine gm_aload_n C dX5_readRoll_0 rfl 0 rfl ?_
  refine gm_iconst (v := 0) C dX5_readRoll_1 (by decide) ?_
  refine gm_aload_n C dX5_readRoll_2 rfl 0 rfl ?_
  refine gm_getr (j := 3) (u := 4) C (Nat.le_of_ble_eq_true rfl) rfl kc_5 (k := 1) rfl (by decide) rfl rfl wl_151 dX5_readRoll_3 ?_
  obtain ⟨v1, ev1, hf⟩ := gm_bp1_s hf
  refine gm_callVi (As := []) C (Tr_numbers_c l cf ad gm_tr_4 ev1) (Nat.le_of_ble_eq_true rfl) rfl kc_9 wy_Tr_numbers rfl wl_449 rfl ⟨(Nat.le_of_ble_eq_true rfl), (Nat.le_of_ble_eq_true rfl)⟩ rfl (Nat.le_of_ble_eq_true rfl) dX5_readRoll_6 ?_
  refine gm_iconst (v := 1) C dX5_readRoll_9 (by decide) ?_
  refine gm_isub C dX5_readRoll_10 ?_
  obtain ⟨v2, S3, eS3, hf⟩ := gm_bp2_s hf
  refine gm_callVi (As := [.int 0, .int (v1 - 1)]) C (Rd_readNumber_c l cf ad eS3) (Nat.le_of_ble_eq_true rfl) rfl kc_5 wy_Rd_readNumber rfl wl_406 rfl ⟨(Nat.le_of_ble_eq_true rfl), (Nat.le_of_ble_eq_true rfl)⟩ rfl (Nat.le_of_ble_eq_true rfl) dX5_readRoll_11 ?_
  refine gm_istore_n (lv' := [(1, .int v2), (0, .ref (ad 1))]) C dX5_readRoll_14 rfl (by decide) rfl ?_
  refine gm_aload_n C dX5_readRoll_15 rfl 1 rfl ?_
  refine gm_iconst (v := 0) C dX5_readRoll_16 (by decide) ?_
  refine gm_sipush (v := 200) C dX5_readRoll_17 (by decide) ?_
  obtain ⟨v4, S5, eS5, hf⟩ := gm_bp2_s hf
  refine gm_callVi (As := [.int 0, .int 200]) C (Rd_readNumber_c l cf ad eS5) (Nat.le_of_ble_eq_true rfl) rfl kc_5 wy_Rd_readNumber rfl wl_406 rfl ⟨(Nat.le_of_ble_eq_true rfl), (Nat.le_of_ble_eq_true rfl)⟩ rfl (Nat.le_of_ble_eq_true rfl) dX5_readRoll_20 ?_
  refine gm_istore_n (lv' := [(2, .int v4), (1, .int v2), (0, .ref (ad 1))]) C dX5_readRoll_23 rfl (by decide) rfl ?_
  refine gm_aload_n C dX5_readRoll_24 rfl 2 rfl ?_
  refine gm_geti C (Nat.le_of_ble_eq_true rfl) rfl kc_5 (k := 4) rfl (by decide) rfl wl_155 dX5_readRoll_25 ?_
  refine gm_if_ne C 40 dX5_readRoll_28 (by decide) (fun c6 => ?_) (fun c6 => ?_)
  · have hf := gm_if _ c6 hf
    exact gm_vret C hr dX5_readRoll_40 hf
  · have hf := gm_it _ c6 hf
    refine gm_aload_n C dX5_readRoll_31 rfl 2 rfl ?_
    refine gm_getr (j := 3) (u := 4) C (Nat.le_of_ble_eq_true rfl) rfl kc_5 (k := 1) rfl (by decide) rfl rfl wl_151 dX5_readRoll_32 ?_
    refine gm_iload_n C dX5_readRoll_35 rfl 1 rfl ?_
    refine gm_iload_n C dX5_readRoll_36 rfl 0 rfl ?_
    obtain ⟨S7, eS7, hf⟩ := gm_bp1_s hf
    refine gm_callVv (As := [.int v2, .int v4]) C (Tr_addRoll_c l cf ad gm_tr_4 eS7) (Nat.le_of_ble_eq_true rfl) rfl kc_9 wy_Tr_addRoll rfl wl_453 rfl ⟨(Nat.le_of_ble_eq_true rfl), (Nat.le_of_ble_eq_true rfl)⟩ rfl (Nat.le_of_ble_eq_true rfl) dX5_readRoll_37 ?_
    exact gm_vret C hr dX5_readRoll_40 hf
theorem dX9_addRider_0 : decode cX9_addRider 0 = .ok (.aload_n 0, 1) := by decide +kernel
theorem dX9_addRider_1 : decode cX9_addRider 1 = .ok (.getfield 37, 3) := by decide +kernel
theorem dX9_addRider_4 : decode cX9_addRider 4 = .ok (.iconst 5, 1) := by decide +kernel
theorem dX9_addRider_5 : decode cX9_addRider 5 = .ok (.if_icmp .ge 51, 3) := by decide +kernel
theorem dX9_addRider_8 : decode cX9_addRider 8 = .ok (.aload_n 0, 1) := by decide +kernel
theorem dX9_addRider_9 : decode cX9_addRider 9 = .ok (.getfield 37, 3) := by decide +kernel
theorem dX9_addRider_12 : decode cX9_addRider 12 = .ok (.iconst 5, 1) := by decide +kernel
theorem dX9_addRider_13 : decode cX9_addRider 13 = .ok (.imul, 1) := by decide +kernel
theorem dX9_addRider_14 : decode cX9_addRider 14 = .ok (.istore_n 2, 1) := by decide +kernel
theorem dX9_addRider_15 : decode cX9_addRider 15 = .ok (.iconst 0, 1) := by decide +kernel
theorem dX9_addRider_16 : decode cX9_addRider 16 = .ok (.istore_n 3, 1) := by decide +kernel
theorem dX9_addRider_17 : decode cX9_addRider 17 = .ok (.iload_n 3, 1) := by decide +kernel
theorem dX9_addRider_18 : decode cX9_addRider 18 = .ok (.iconst 5, 1) := by decide +kernel
theorem dX9_addRider_19 : decode cX9_addRider 19 = .ok (.if_icmp .ge 18, 3) := by decide +kernel
theorem dX9_addRider_22 : decode cX9_addRider 22 = .ok (.aload_n 0, 1) := by decide +kernel
theorem dX9_addRider_23 : decode cX9_addRider 23 = .ok (.getfield 18, 3) := by decide +kernel
theorem dX9_addRider_26 : decode cX9_addRider 26 = .ok (.iload_n 2, 1) := by decide +kernel
theorem dX9_addRider_27 : decode cX9_addRider 27 = .ok (.iload_n 3, 1) := by decide +kernel
theorem dX9_addRider_28 : decode cX9_addRider 28 = .ok (.iadd, 1) := by decide +kernel
theorem dX9_addRider_29 : decode cX9_addRider 29 = .ok (.iconst 0, 1) := by decide +kernel
theorem dX9_addRider_30 : decode cX9_addRider 30 = .ok (.iastore, 1) := by decide +kernel
theorem dX9_addRider_31 : decode cX9_addRider 31 = .ok (.iinc 3 1, 3) := by decide +kernel
theorem dX9_addRider_34 : decode cX9_addRider 34 = .ok (.goto (-17), 3) := by decide +kernel
theorem dX9_addRider_37 : decode cX9_addRider 37 = .ok (.aload_n 0, 1) := by decide +kernel
theorem dX9_addRider_38 : decode cX9_addRider 38 = .ok (.getfield 18, 3) := by decide +kernel
theorem dX9_addRider_41 : decode cX9_addRider 41 = .ok (.iload_n 2, 1) := by decide +kernel
theorem dX9_addRider_42 : decode cX9_addRider 42 = .ok (.iconst 0, 1) := by decide +kernel
theorem dX9_addRider_43 : decode cX9_addRider 43 = .ok (.iadd, 1) := by decide +kernel
theorem dX9_addRider_44 : decode cX9_addRider 44 = .ok (.iload_n 1, 1) := by decide +kernel
theorem dX9_addRider_45 : decode cX9_addRider 45 = .ok (.iastore, 1) := by decide +kernel
theorem dX9_addRider_46 : decode cX9_addRider 46 = .ok (.aload_n 0, 1) := by decide +kernel
theorem dX9_addRider_47 : decode cX9_addRider 47 = .ok (.dup, 1) := by decide +kernel
theorem dX9_addRider_48 : decode cX9_addRider 48 = .ok (.getfield 37, 3) := by decide +kernel
theorem dX9_addRider_51 : decode cX9_addRider 51 = .ok (.iconst 1, 1) := by decide +kernel
theorem dX9_addRider_52 : decode cX9_addRider 52 = .ok (.iadd, 1) := by decide +kernel
theorem dX9_addRider_53 : decode cX9_addRider 53 = .ok (.putfield 37, 3) := by decide +kernel
theorem dX9_addRider_56 : decode cX9_addRider 56 = .ok (.return_, 1) := by decide +kernel
def Tr_addRider_L17_b (t : Nat) (x2 : Int32) (rec : Int32 → gm_M → Option (gm_M)) (y3 : Int32) (S4 : gm_M) : Option (gm_M) :=
  if (5 : Int32) ≤ y3 then (
    some (S4)
  ) else (
    gm_ck (x2 + y3) 25 <|
    gm_lt (α := gm_M) (gm_ui S4 (t + 3) ((x2 + y3).toNatClampNeg) 0) fun S8 =>
    gm_lt (α := Int32) (y3 + 1) fun x9 =>
    rec x9 S8
  )
def Tr_addRider_L17 (t : Nat) (x2 : Int32) : Nat → Int32 → gm_M → Option (gm_M)
  | 0 => fun _ _ => none
  | n + 1 => Tr_addRider_L17_b t x2 (Tr_addRider_L17 t x2 n)
def Tr_addRider (fl : Nat) (t : Nat) (a0 : Int32) (S : gm_M) : Option gm_M :=
  if (5 : Int32) ≤ S.1 t 8 then (
    some S
  ) else (
    gm_lt (α := Int32) ((S.1 t 8) * 5) fun x2 =>
    gm_bp1 (Tr_addRider_L17 t x2 fl 0 S) fun S5 =>
    gm_ck (x2 + 0) 25 <|
    gm_lt (α := gm_M) (gm_ui S5 (t + 3) ((x2 + 0).toNatClampNeg) a0) fun S11 =>
    gm_lt (α := gm_M) (gm_ui S11 t 8 ((S11.1 t 8) + 1)) fun S12 =>
    some S12
  )
set_option maxHeartbeats 4000000 in
set_option maxRecDepth 100000 in
theorem Tr_addRider_c (l : Launch) (cf : gm_C) (ad : Nat → Nat) {fl : Nat} {t : Nat} (ht : gm_isTr t) {a0 : Int32} {S : gm_M}  {S'  : gm_M} (hf : Tr_addRider fl t a0 S = some S') : gm_Met l yX9_addRider cX9_addRider 4 none 0 0 cf ad gm_sC 106 [.ref (ad t), .int a0] S none S' := by
  refine gm_met (by decide +kernel) (Nat.le_of_ble_eq_true rfl) ?_
  intro p e s m args below meth c C hr
  have C : gm_F p s m args meth c cf ad 106 cX9_addRider 4 RX9 := C
  refine gm_lve (lv' := [(0, .ref (ad t)), (1, .int a0)]) rfl ?_
  unfold Tr_addRider at hf
  refine gm_aload_n C dX9_addRider_0 rfl 0 rfl ?_
  refine gm_geti C (gm_tr_l0 ht) (gm_tr_k0 ht) kc_9 (k := 8) rfl (by decide) rfl wl_126 dX9_addRider_1 ?_
  refine gm_iconst (v := 5) C dX9_addRider_4 (by decide) ?_
  refine gm_icmp_ge C 56 dX9_addRider_5 (by decide) (fun c1 => ?_) (fun c1 => ?_)
  · have hf := gm_it _ c1 hf
    exact gm_vret C hr dX9_addRider_56 hf
  · have hf := gm_if _ c1 hf
    refine gm_aload_n C dX9_addRider_8 rfl 0 rfl ?_
    refine gm_geti C (gm_tr_l0 ht) (gm_tr_k0 ht) kc_9 (k := 8) rfl (by decide) rfl wl_126 dX9_addRider_9 ?_
    refine gm_iconst (v := 5) C dX9_addRider_12 (by decide) ?_
    refine gm_imul C dX9_addRider_13 ?_
    obtain ⟨x2, ex2, hf⟩ := gm_lt_s hf
    refine gm_topi ex2 ?_
    refine gm_istore_n (lv' := [(2, .int x2), (0, .ref (ad t)), (1, .int a0)]) C dX9_addRider_14 rfl (by decide) rfl ?_
    refine gm_iconst (v := 0) C dX9_addRider_15 (by decide) ?_
    refine gm_istore_n (lv' := [(3, .int 0), (2, .int x2), (0, .ref (ad t)), (1, .int a0)]) C dX9_addRider_16 rfl (by decide) rfl ?_
    have L17 : ∀ (n : Nat) (y3 : Int32) (S4 : gm_M) (S5 : gm_M), Tr_addRider_L17 t x2 n y3 S4 = some (S5) → gm_G p l e { frames := 0, cells := 0, slots := 0, locals := 0 } s m args below meth c (MQ below (gm_Q cf ad gm_sC 106 none S') args s 0 0 (gm_A ad 106)) cf ad gm_sC 106 4 S5 37 [(0, .ref (ad t)), (1, .int a0), (2, .int x2)] [] → gm_G p l e { frames := 0, cells := 0, slots := 0, locals := 0 } s m args below meth c (MQ below (gm_Q cf ad gm_sC 106 none S') args s 0 0 (gm_A ad 106)) cf ad gm_sC 106 4 S4 17 [(0, .ref (ad t)), (1, .int a0), (2, .int x2), (3, .int y3)] [] := by
      intro n
      induction n with
      | zero => intro y3 S4 S5 hf K; cases (show (none : Option _) = some _ from hf)
      | succ n ih =>
        intro y3 S4 S5 hf K
        have hf : Tr_addRider_L17_b t x2 (Tr_addRider_L17 t x2 n) y3 S4 = some (S5) := hf
        unfold Tr_addRider_L17_b at hf
        refine gm_iload_n C dX9_addRider_17 rfl 3 rfl ?_
        refine gm_iconst (v := 5) C dX9_addRider_18 (by decide) ?_
        refine gm_icmp_ge C 37 dX9_addRider_19 (by decide) (fun c6 => ?_) (fun c6 => ?_)
        · have hf := gm_it _ c6 hf
          cases hf
          exact gm_lvp [0, 1, 2] rfl K
        · have hf := gm_if _ c6 hf
          refine gm_aload_n C dX9_addRider_22 rfl 0 rfl ?_
          refine gm_getr (j := 3) (u := (t + 3)) C (gm_tr_l0 ht) (gm_tr_k0 ht) kc_9 (k := 2) rfl (by decide) rfl rfl wl_108 dX9_addRider_23 ?_
          refine gm_iload_n C dX9_addRider_26 rfl 2 rfl ?_
          refine gm_iload_n C dX9_addRider_27 rfl 3 rfl ?_
          refine gm_iadd C dX9_addRider_28 ?_
          refine gm_iconst (v := 0) C dX9_addRider_29 (by decide) ?_
          obtain ⟨h7, hf⟩ := gm_ck_s hf
          refine gm_iast C (gm_tr_l3 ht) (gm_tr_k3 ht) (gm_tr_n3 ht) h7 dX9_addRider_30 ?_
          obtain ⟨S8, eS8, hf⟩ := gm_lt_s hf
          refine gm_topm eS8 ?_
          obtain ⟨x9, ex9, hf⟩ := gm_lt_s hf
          refine gm_iinc (v := x9) (lv' := [(3, .int x9), (0, .ref (ad t)), (1, .int a0), (2, .int x2)]) (j := 3) C dX9_addRider_31 rfl (by rw [ex9]; rfl) (by decide) rfl ?_
          refine gm_goto C 17 dX9_addRider_34 (by decide) ?_
          exact gm_lvp [1, 2, 3, 0] rfl (ih _ _ _ hf K)
    obtain ⟨S5, hx, hf⟩ := gm_bp1_s hf
    refine gm_lvp [2, 3, 1, 0] rfl (L17 fl _ _ _ hx ?_)
    refine gm_aload_n C dX9_addRider_37 rfl 0 rfl ?_
    refine gm_getr (j := 3) (u := (t + 3)) C (gm_tr_l0 ht) (gm_tr_k0 ht) kc_9 (k := 2) rfl (by decide) rfl rfl wl_108 dX9_addRider_38 ?_
    refine gm_iload_n C dX9_addRider_41 rfl 2 rfl ?_
    refine gm_iconst (v := 0) C dX9_addRider_42 (by decide) ?_
    refine gm_iadd C dX9_addRider_43 ?_
    refine gm_iload_n C dX9_addRider_44 rfl 1 rfl ?_
    obtain ⟨h10, hf⟩ := gm_ck_s hf
    refine gm_iast C (gm_tr_l3 ht) (gm_tr_k3 ht) (gm_tr_n3 ht) h10 dX9_addRider_45 ?_
    obtain ⟨S11, eS11, hf⟩ := gm_lt_s hf
    refine gm_topm eS11 ?_
    refine gm_aload_n C dX9_addRider_46 rfl 0 rfl ?_
    refine gm_dup C dX9_addRider_47 rfl ?_
    refine gm_geti C (gm_tr_l0 ht) (gm_tr_k0 ht) kc_9 (k := 8) rfl (by decide) rfl wl_126 dX9_addRider_48 ?_
    refine gm_iconst (v := 1) C dX9_addRider_51 (by decide) ?_
    refine gm_iadd C dX9_addRider_52 ?_
    refine gm_puti C (gm_tr_l0 ht) (gm_tr_k0 ht) kc_9 (k := 8) rfl (by decide) rfl rfl (kc_9.2.2.2.1 8 (by decide)) rfl rfl wl_126 dX9_addRider_53 ?_
    obtain ⟨S12, eS12, hf⟩ := gm_lt_s hf
    refine gm_topm eS12 ?_
    exact gm_vret C hr dX9_addRider_56 hf
theorem dX5_readRider_0 : decode cX5_readRider 0 = .ok (.aload_n 0, 1) := by decide +kernel
theorem dX5_readRider_1 : decode cX5_readRider 1 = .ok (.iconst 0, 1) := by decide +kernel
theorem dX5_readRider_2 : decode cX5_readRider 2 = .ok (.iconst 3, 1) := by decide +kernel
theorem dX5_readRider_3 : decode cX5_readRider 3 = .ok (.invokevirtual 96, 3) := by decide +kernel
theorem dX5_readRider_6 : decode cX5_readRider 6 = .ok (.istore_n 1, 1) := by decide +kernel
theorem dX5_readRider_7 : decode cX5_readRider 7 = .ok (.aload_n 0, 1) := by decide +kernel
theorem dX5_readRider_8 : decode cX5_readRider 8 = .ok (.getfield 32, 3) := by decide +kernel
theorem dX5_readRider_11 : decode cX5_readRider 11 = .ok (.ifCond .ne 11, 3) := by decide +kernel
theorem dX5_readRider_14 : decode cX5_readRider 14 = .ok (.aload_n 0, 1) := by decide +kernel
theorem dX5_readRider_15 : decode cX5_readRider 15 = .ok (.getfield 21, 3) := by decide +kernel
theorem dX5_readRider_18 : decode cX5_readRider 18 = .ok (.iload_n 1, 1) := by decide +kernel
theorem dX5_readRider_19 : decode cX5_readRider 19 = .ok (.invokevirtual 127, 3) := by decide +kernel
theorem dX5_readRider_22 : decode cX5_readRider 22 = .ok (.return_, 1) := by decide +kernel
def Rd_readRider (fl : Nat) (S : gm_M) : Option gm_M :=
  gm_bp2 (Rd_readNumber fl 0 3 S) fun v1 S2 =>
  if S2.1 1 4 = 0 then (
    gm_bp1 (Tr_addRider fl 4 v1 S2) fun S4 =>
    some S4
  ) else (
    some S2
  )
set_option maxHeartbeats 4000000 in
set_option maxRecDepth 100000 in
theorem Rd_readRider_c (l : Launch) (cf : gm_C) (ad : Nat → Nat) {fl : Nat}    {S : gm_M}  {S'  : gm_M} (hf : Rd_readRider fl S = some S') : gm_Met l yX5_readRider cX5_readRider 2 none 3 66 cf ad gm_sC 106 [.ref (ad 1)] S none S' := by
  refine gm_met (by decide +kernel) (Nat.le_of_ble_eq_true rfl) ?_
  intro p e s m args below meth c C hr
  have C : gm_F p s m args meth c cf ad 106 cX5_readRider 2 RX5 := C
  refine gm_lve (lv' := [(0, .ref (ad 1))]) rfl ?_
  unfold Rd_readRider at hf
  refine gm_aload_n C dX5_readRider_0 rfl 0 rfl ?_
  refine gm_iconst (v := 0) C dX5_readRider_1 (by decide) ?_
  refine gm_iconst (v := 3) C dX5_readRider_2 (by decide) ?_
  obtain ⟨v1, S2, eS2, hf⟩ := gm_bp2_s hf
  refine gm_callVi (As := [.int 0, .int 3]) C (Rd_readNumber_c l cf ad eS2) (Nat.le_of_ble_eq_true rfl) rfl kc_5 wy_Rd_readNumber rfl wl_406 rfl ⟨(Nat.le_of_ble_eq_true rfl), (Nat.le_of_ble_eq_true rfl)⟩ rfl (Nat.le_of_ble_eq_true rfl) dX5_readRider_3 ?_
  refine gm_istore_n (lv' := [(1, .int v1), (0, .ref (ad 1))]) C dX5_readRider_6 rfl (by decide) rfl ?_
  refine gm_aload_n C dX5_readRider_7 rfl 1 rfl ?_
  refine gm_geti C (Nat.le_of_ble_eq_true rfl) rfl kc_5 (k := 4) rfl (by decide) rfl wl_155 dX5_readRider_8 ?_
  refine gm_if_ne C 22 dX5_readRider_11 (by decide) (fun c3 => ?_) (fun c3 => ?_)
  · have hf := gm_if _ c3 hf
    exact gm_vret C hr dX5_readRider_22 hf
  · have hf := gm_it _ c3 hf
    refine gm_aload_n C dX5_readRider_14 rfl 1 rfl ?_
    refine gm_getr (j := 3) (u := 4) C (Nat.le_of_ble_eq_true rfl) rfl kc_5 (k := 1) rfl (by decide) rfl rfl wl_151 dX5_readRider_15 ?_
    refine gm_iload_n C dX5_readRider_18 rfl 0 rfl ?_
    obtain ⟨S4, eS4, hf⟩ := gm_bp1_s hf
    refine gm_callVv (As := [.int v1]) C (Tr_addRider_c l cf ad gm_tr_4 eS4) (Nat.le_of_ble_eq_true rfl) rfl kc_9 wy_Tr_addRider rfl wl_465 rfl ⟨(Nat.le_of_ble_eq_true rfl), (Nat.le_of_ble_eq_true rfl)⟩ rfl (Nat.le_of_ble_eq_true rfl) dX5_readRider_19 ?_
    exact gm_vret C hr dX5_readRider_22 hf
theorem dX5_readEnd_0 : decode cX5_readEnd 0 = .ok (.aload_n 0, 1) := by decide +kernel
theorem dX5_readEnd_1 : decode cX5_readEnd 1 = .ok (.invokevirtual 42, 3) := by decide +kernel
theorem dX5_readEnd_4 : decode cX5_readEnd 4 = .ok (.aload_n 0, 1) := by decide +kernel
theorem dX5_readEnd_5 : decode cX5_readEnd 5 = .ok (.getfield 12, 3) := by decide +kernel
theorem dX5_readEnd_8 : decode cX5_readEnd 8 = .ok (.aload_n 0, 1) := by decide +kernel
theorem dX5_readEnd_9 : decode cX5_readEnd 9 = .ok (.getfield 28, 3) := by decide +kernel
theorem dX5_readEnd_12 : decode cX5_readEnd 12 = .ok (.invokevirtual 51, 3) := by decide +kernel
theorem dX5_readEnd_15 : decode cX5_readEnd 15 = .ok (.bipush 59, 2) := by decide +kernel
theorem dX5_readEnd_17 : decode cX5_readEnd 17 = .ok (.if_icmp .ne 16, 3) := by decide +kernel
theorem dX5_readEnd_20 : decode cX5_readEnd 20 = .ok (.aload_n 0, 1) := by decide +kernel
theorem dX5_readEnd_21 : decode cX5_readEnd 21 = .ok (.dup, 1) := by decide +kernel
theorem dX5_readEnd_22 : decode cX5_readEnd 22 = .ok (.getfield 28, 3) := by decide +kernel
theorem dX5_readEnd_25 : decode cX5_readEnd 25 = .ok (.iconst 1, 1) := by decide +kernel
theorem dX5_readEnd_26 : decode cX5_readEnd 26 = .ok (.iadd, 1) := by decide +kernel
theorem dX5_readEnd_27 : decode cX5_readEnd 27 = .ok (.putfield 28, 3) := by decide +kernel
theorem dX5_readEnd_30 : decode cX5_readEnd 30 = .ok (.goto 12, 3) := by decide +kernel
theorem dX5_readEnd_33 : decode cX5_readEnd 33 = .ok (.aload_n 0, 1) := by decide +kernel
theorem dX5_readEnd_34 : decode cX5_readEnd 34 = .ok (.iconst 1, 1) := by decide +kernel
theorem dX5_readEnd_35 : decode cX5_readEnd 35 = .ok (.aload_n 0, 1) := by decide +kernel
theorem dX5_readEnd_36 : decode cX5_readEnd 36 = .ok (.getfield 28, 3) := by decide +kernel
theorem dX5_readEnd_39 : decode cX5_readEnd 39 = .ok (.invokevirtual 59, 3) := by decide +kernel
theorem dX5_readEnd_42 : decode cX5_readEnd 42 = .ok (.return_, 1) := by decide +kernel
def Rd_readEnd (fl : Nat) (S : gm_M) : Option gm_M :=
  gm_bp1 (Rd_skipBlanks fl S) fun S1 =>
  gm_bp1 (Tx_letterAt (S1.1 1 2) S1) fun v2 =>
  if v2 = 59 then (
    gm_lt (α := gm_M) (gm_ui S1 1 2 ((S1.1 1 2) + 1)) fun S5 =>
    some S5
  ) else (
    gm_bp1 (Rd_setFault 1 (S1.1 1 2) S1) fun S4 =>
    some S4
  )
set_option maxHeartbeats 4000000 in
set_option maxRecDepth 100000 in
theorem Rd_readEnd_c (l : Launch) (cf : gm_C) (ad : Nat → Nat) {fl : Nat}    {S : gm_M}  {S'  : gm_M} (hf : Rd_readEnd fl S = some S') : gm_Met l yX5_readEnd cX5_readEnd 1 none 2 42 cf ad gm_sC 106 [.ref (ad 1)] S none S' := by
  refine gm_met (by decide +kernel) (Nat.le_of_ble_eq_true rfl) ?_
  intro p e s m args below meth c C hr
  have C : gm_F p s m args meth c cf ad 106 cX5_readEnd 1 RX5 := C
  refine gm_lve (lv' := [(0, .ref (ad 1))]) rfl ?_
  unfold Rd_readEnd at hf
  refine gm_aload_n C dX5_readEnd_0 rfl 0 rfl ?_
  obtain ⟨S1, eS1, hf⟩ := gm_bp1_s hf
  refine gm_callVv (As := []) C (Rd_skipBlanks_c l cf ad eS1) (Nat.le_of_ble_eq_true rfl) rfl kc_5 wy_Rd_skipBlanks rfl wl_378 rfl ⟨(Nat.le_of_ble_eq_true rfl), (Nat.le_of_ble_eq_true rfl)⟩ rfl (Nat.le_of_ble_eq_true rfl) dX5_readEnd_1 ?_
  refine gm_aload_n C dX5_readEnd_4 rfl 0 rfl ?_
  refine gm_getr (j := 1) (u := 2) C (Nat.le_of_ble_eq_true rfl) rfl kc_5 (k := 0) rfl (by decide) rfl rfl wl_149 dX5_readEnd_5 ?_
  refine gm_aload_n C dX5_readEnd_8 rfl 0 rfl ?_
  refine gm_geti C (Nat.le_of_ble_eq_true rfl) rfl kc_5 (k := 2) rfl (by decide) rfl wl_153 dX5_readEnd_9 ?_
  obtain ⟨v2, ev2, hf⟩ := gm_bp1_s hf
  refine gm_callVi (As := [.int (S1.1 1 2)]) C (Tx_letterAt_c l cf ad ev2) (Nat.le_of_ble_eq_true rfl) rfl kc_7 wy_Tx_letterAt rfl wl_382 rfl ⟨(Nat.le_of_ble_eq_true rfl), (Nat.le_of_ble_eq_true rfl)⟩ rfl (Nat.le_of_ble_eq_true rfl) dX5_readEnd_12 ?_
  refine gm_bipush (v := 59) C dX5_readEnd_15 (by decide) ?_
  refine gm_icmp_ne C 33 dX5_readEnd_17 (by decide) (fun c3 => ?_) (fun c3 => ?_)
  · have hf := gm_if _ c3 hf
    refine gm_aload_n C dX5_readEnd_33 rfl 0 rfl ?_
    refine gm_iconst (v := 1) C dX5_readEnd_34 (by decide) ?_
    refine gm_aload_n C dX5_readEnd_35 rfl 0 rfl ?_
    refine gm_geti C (Nat.le_of_ble_eq_true rfl) rfl kc_5 (k := 2) rfl (by decide) rfl wl_153 dX5_readEnd_36 ?_
    obtain ⟨S4, eS4, hf⟩ := gm_bp1_s hf
    refine gm_callVv (As := [.int 1, .int (S1.1 1 2)]) C (Rd_setFault_c l cf ad eS4) (Nat.le_of_ble_eq_true rfl) rfl kc_5 wy_Rd_setFault rfl wl_394 rfl ⟨(Nat.le_of_ble_eq_true rfl), (Nat.le_of_ble_eq_true rfl)⟩ rfl (Nat.le_of_ble_eq_true rfl) dX5_readEnd_39 ?_
    exact gm_vret C hr dX5_readEnd_42 hf
  · have hf := gm_it _ c3 hf
    refine gm_aload_n C dX5_readEnd_20 rfl 0 rfl ?_
    refine gm_dup C dX5_readEnd_21 rfl ?_
    refine gm_geti C (Nat.le_of_ble_eq_true rfl) rfl kc_5 (k := 2) rfl (by decide) rfl wl_153 dX5_readEnd_22 ?_
    refine gm_iconst (v := 1) C dX5_readEnd_25 (by decide) ?_
    refine gm_iadd C dX5_readEnd_26 ?_
    refine gm_puti C (Nat.le_of_ble_eq_true rfl) rfl kc_5 (k := 2) rfl (by decide) rfl rfl (kc_5.2.2.2.1 2 (by decide)) rfl rfl wl_153 dX5_readEnd_27 ?_
    obtain ⟨S5, eS5, hf⟩ := gm_lt_s hf
    refine gm_topm eS5 ?_
    refine gm_goto C 42 dX5_readEnd_30 (by decide) ?_
    exact gm_vret C hr dX5_readEnd_42 hf
theorem dX5_readClause_0 : decode cX5_readClause 0 = .ok (.aload_n 0, 1) := by decide +kernel
theorem dX5_readClause_1 : decode cX5_readClause 1 = .ok (.getfield 12, 3) := by decide +kernel
theorem dX5_readClause_4 : decode cX5_readClause 4 = .ok (.aload_n 0, 1) := by decide +kernel
theorem dX5_readClause_5 : decode cX5_readClause 5 = .ok (.getfield 28, 3) := by decide +kernel
theorem dX5_readClause_8 : decode cX5_readClause 8 = .ok (.invokevirtual 51, 3) := by decide +kernel
theorem dX5_readClause_11 : decode cX5_readClause 11 = .ok (.istore_n 1, 1) := by decide +kernel
theorem dX5_readClause_12 : decode cX5_readClause 12 = .ok (.aload_n 0, 1) := by decide +kernel
theorem dX5_readClause_13 : decode cX5_readClause 13 = .ok (.iload_n 1, 1) := by decide +kernel
theorem dX5_readClause_14 : decode cX5_readClause 14 = .ok (.invokevirtual 55, 3) := by decide +kernel
theorem dX5_readClause_17 : decode cX5_readClause 17 = .ok (.ifCond .ne 13, 3) := by decide +kernel
theorem dX5_readClause_20 : decode cX5_readClause 20 = .ok (.aload_n 0, 1) := by decide +kernel
theorem dX5_readClause_21 : decode cX5_readClause 21 = .ok (.iconst 1, 1) := by decide +kernel
theorem dX5_readClause_22 : decode cX5_readClause 22 = .ok (.aload_n 0, 1) := by decide +kernel
theorem dX5_readClause_23 : decode cX5_readClause 23 = .ok (.getfield 28, 3) := by decide +kernel
theorem dX5_readClause_26 : decode cX5_readClause 26 = .ok (.invokevirtual 59, 3) := by decide +kernel
theorem dX5_readClause_29 : decode cX5_readClause 29 = .ok (.return_, 1) := by decide +kernel
theorem dX5_readClause_30 : decode cX5_readClause 30 = .ok (.aload_n 0, 1) := by decide +kernel
theorem dX5_readClause_31 : decode cX5_readClause 31 = .ok (.iload_n 1, 1) := by decide +kernel
theorem dX5_readClause_32 : decode cX5_readClause 32 = .ok (.invokevirtual 63, 3) := by decide +kernel
theorem dX5_readClause_35 : decode cX5_readClause 35 = .ok (.ifCond .eq 13, 3) := by decide +kernel
theorem dX5_readClause_38 : decode cX5_readClause 38 = .ok (.aload_n 0, 1) := by decide +kernel
theorem dX5_readClause_39 : decode cX5_readClause 39 = .ok (.iconst 3, 1) := by decide +kernel
theorem dX5_readClause_40 : decode cX5_readClause 40 = .ok (.aload_n 0, 1) := by decide +kernel
theorem dX5_readClause_41 : decode cX5_readClause 41 = .ok (.getfield 28, 3) := by decide +kernel
theorem dX5_readClause_44 : decode cX5_readClause 44 = .ok (.invokevirtual 59, 3) := by decide +kernel
theorem dX5_readClause_47 : decode cX5_readClause 47 = .ok (.return_, 1) := by decide +kernel
theorem dX5_readClause_48 : decode cX5_readClause 48 = .ok (.aload_n 0, 1) := by decide +kernel
theorem dX5_readClause_49 : decode cX5_readClause 49 = .ok (.dup, 1) := by decide +kernel
theorem dX5_readClause_50 : decode cX5_readClause 50 = .ok (.getfield 28, 3) := by decide +kernel
theorem dX5_readClause_53 : decode cX5_readClause 53 = .ok (.iconst 1, 1) := by decide +kernel
theorem dX5_readClause_54 : decode cX5_readClause 54 = .ok (.iadd, 1) := by decide +kernel
theorem dX5_readClause_55 : decode cX5_readClause 55 = .ok (.putfield 28, 3) := by decide +kernel
theorem dX5_readClause_58 : decode cX5_readClause 58 = .ok (.iload_n 1, 1) := by decide +kernel
theorem dX5_readClause_59 : decode cX5_readClause 59 = .ok (.lookupswitch 69 #[(100, 41), (109, 48), (110, 62), (114, 55)], 41) := by decide +kernel
theorem dX5_readClause_100 : decode cX5_readClause 100 = .ok (.aload_n 0, 1) := by decide +kernel
theorem dX5_readClause_101 : decode cX5_readClause 101 = .ok (.invokevirtual 66, 3) := by decide +kernel
theorem dX5_readClause_104 : decode cX5_readClause 104 = .ok (.goto 28, 3) := by decide +kernel
theorem dX5_readClause_107 : decode cX5_readClause 107 = .ok (.aload_n 0, 1) := by decide +kernel
theorem dX5_readClause_108 : decode cX5_readClause 108 = .ok (.invokevirtual 69, 3) := by decide +kernel
theorem dX5_readClause_111 : decode cX5_readClause 111 = .ok (.goto 21, 3) := by decide +kernel
theorem dX5_readClause_114 : decode cX5_readClause 114 = .ok (.aload_n 0, 1) := by decide +kernel
theorem dX5_readClause_115 : decode cX5_readClause 115 = .ok (.invokevirtual 72, 3) := by decide +kernel
theorem dX5_readClause_118 : decode cX5_readClause 118 = .ok (.goto 14, 3) := by decide +kernel
theorem dX5_readClause_121 : decode cX5_readClause 121 = .ok (.aload_n 0, 1) := by decide +kernel
theorem dX5_readClause_122 : decode cX5_readClause 122 = .ok (.invokevirtual 75, 3) := by decide +kernel
theorem dX5_readClause_125 : decode cX5_readClause 125 = .ok (.goto 7, 3) := by decide +kernel
theorem dX5_readClause_128 : decode cX5_readClause 128 = .ok (.aload_n 0, 1) := by decide +kernel
theorem dX5_readClause_129 : decode cX5_readClause 129 = .ok (.invokevirtual 78, 3) := by decide +kernel
theorem dX5_readClause_132 : decode cX5_readClause 132 = .ok (.aload_n 0, 1) := by decide +kernel
theorem dX5_readClause_133 : decode cX5_readClause 133 = .ok (.invokevirtual 81, 3) := by decide +kernel
theorem dX5_readClause_136 : decode cX5_readClause 136 = .ok (.return_, 1) := by decide +kernel
def Rd_readClause (fl : Nat) (S : gm_M) : Option gm_M :=
  gm_bp1 (Tx_letterAt (S.1 1 2) S) fun v1 =>
  gm_bp1 (Rd_mayStand v1 S) fun v2 =>
  if v2 = 0 then (
    gm_bp1 (Rd_setFault 1 (S.1 1 2) S) fun S22 =>
    some S22
  ) else (
    gm_bp1 (Rd_isOneTooMany v1 S) fun v4 =>
    if v4 = 0 then (
      gm_lt (α := gm_M) (gm_ui S 1 2 ((S.1 1 2) + 1)) fun S6 =>
      if v1 = 100 then (
        gm_bp1 (Rd_readFigures fl S6) fun S8 =>
        gm_bp1 (Rd_readEnd fl S8) fun S9 =>
        some S9
      ) else (
      if v1 = 109 then (
        gm_bp1 (Rd_readMode fl S6) fun S11 =>
        gm_bp1 (Rd_readEnd fl S11) fun S12 =>
        some S12
      ) else (
      if v1 = 110 then (
        gm_bp1 (Rd_readRoll fl S6) fun S14 =>
        gm_bp1 (Rd_readEnd fl S14) fun S15 =>
        some S15
      ) else (
      if v1 = 114 then (
        gm_bp1 (Rd_readRule fl S6) fun S17 =>
        gm_bp1 (Rd_readEnd fl S17) fun S18 =>
        some S18
      ) else (
        gm_bp1 (Rd_readRider fl S6) fun S19 =>
        gm_bp1 (Rd_readEnd fl S19) fun S20 =>
        some S20
      ))))
    ) else (
      gm_bp1 (Rd_setFault 3 (S.1 1 2) S) fun S21 =>
      some S21
    )
  )
set_option maxHeartbeats 4000000 in
set_option maxRecDepth 100000 in
theorem Rd_readClause_c (l : Launch) (cf : gm_C) (ad : Nat → Nat) {fl : Nat}    {S : gm_M}  {S'  : gm_M} (hf : Rd_readClause fl S = some S') : gm_Met l yX5_readClause cX5_readClause 2 none 4 90 cf ad gm_sC 106 [.ref (ad 1)] S none S' := by
  refine gm_met (by decide +kernel) (Nat.le_of_ble_eq_true rfl) ?_
  intro p e s m args below meth c C hr
  have C : gm_F p s m args meth c cf ad 106 cX5_readClause 2 RX5 := C
  refine gm_lve (lv' := [(0, .ref (ad 1))]) rfl ?_
  unfold Rd_readClause at hf
  refine gm_aload_n C dX5_readClause_0 rfl 0 rfl ?_
  refine gm_getr (j := 1) (u := 2) C (Nat.le_of_ble_eq_true rfl) rfl kc_5 (k := 0) rfl (by decide) rfl rfl wl_149 dX5_readClause_1 ?_
  refine gm_aload_n C dX5_readClause_4 rfl 0 rfl ?_
  refine gm_geti C (Nat.le_of_ble_eq_true rfl) rfl kc_5 (k := 2) rfl (by decide) rfl wl_153 dX5_readClause_5 ?_
  obtain ⟨v1, ev1, hf⟩ := gm_bp1_s hf
  refine gm_callVi (As := [.int (S.1 1 2)]) C (Tx_letterAt_c l cf ad ev1) (Nat.le_of_ble_eq_true rfl) rfl kc_7 wy_Tx_letterAt rfl wl_382 rfl ⟨(Nat.le_of_ble_eq_true rfl), (Nat.le_of_ble_eq_true rfl)⟩ rfl (Nat.le_of_ble_eq_true rfl) dX5_readClause_8 ?_
  refine gm_istore_n (lv' := [(1, .int v1), (0, .ref (ad 1))]) C dX5_readClause_11 rfl (by decide) rfl ?_
  refine gm_aload_n C dX5_readClause_12 rfl 1 rfl ?_
  refine gm_iload_n C dX5_readClause_13 rfl 0 rfl ?_
  obtain ⟨v2, ev2, hf⟩ := gm_bp1_s hf
  refine gm_callVi (As := [.int v1]) C (Rd_mayStand_c l cf ad ev2) (Nat.le_of_ble_eq_true rfl) rfl kc_5 wy_Rd_mayStand rfl wl_390 rfl ⟨(Nat.le_of_ble_eq_true rfl), (Nat.le_of_ble_eq_true rfl)⟩ rfl (Nat.le_of_ble_eq_true rfl) dX5_readClause_14 ?_
  refine gm_if_ne C 30 dX5_readClause_17 (by decide) (fun c3 => ?_) (fun c3 => ?_)
  · have hf := gm_if _ c3 hf
    refine gm_aload_n C dX5_readClause_30 rfl 1 rfl ?_
    refine gm_iload_n C dX5_readClause_31 rfl 0 rfl ?_
    obtain ⟨v4, ev4, hf⟩ := gm_bp1_s hf
    refine gm_callVi (As := [.int v1]) C (Rd_isOneTooMany_c l cf ad ev4) (Nat.le_of_ble_eq_true rfl) rfl kc_5 wy_Rd_isOneTooMany rfl wl_398 rfl ⟨(Nat.le_of_ble_eq_true rfl), (Nat.le_of_ble_eq_true rfl)⟩ rfl (Nat.le_of_ble_eq_true rfl) dX5_readClause_32 ?_
    refine gm_if_eq C 48 dX5_readClause_35 (by decide) (fun c5 => ?_) (fun c5 => ?_)
    · have hf := gm_it _ c5 hf
      refine gm_aload_n C dX5_readClause_48 rfl 1 rfl ?_
      refine gm_dup C dX5_readClause_49 rfl ?_
      refine gm_geti C (Nat.le_of_ble_eq_true rfl) rfl kc_5 (k := 2) rfl (by decide) rfl wl_153 dX5_readClause_50 ?_
      refine gm_iconst (v := 1) C dX5_readClause_53 (by decide) ?_
      refine gm_iadd C dX5_readClause_54 ?_
      refine gm_puti C (Nat.le_of_ble_eq_true rfl) rfl kc_5 (k := 2) rfl (by decide) rfl rfl (kc_5.2.2.2.1 2 (by decide)) rfl rfl wl_153 dX5_readClause_55 ?_
      obtain ⟨S6, eS6, hf⟩ := gm_lt_s hf
      refine gm_topm eS6 ?_
      refine gm_iload_n C dX5_readClause_58 rfl 0 rfl ?_
      by_cases c7 : v1 = 100
      · have hf := gm_it _ c7 hf
        refine gm_lookup (off := 41) C 100 dX5_readClause_59 rfl (by rw [c7] <;> rfl) (by decide) ?_
        refine gm_aload_n C dX5_readClause_100 rfl 1 rfl ?_
        obtain ⟨S8, eS8, hf⟩ := gm_bp1_s hf
        refine gm_callVv (As := []) C (Rd_readFigures_c l cf ad eS8) (Nat.le_of_ble_eq_true rfl) rfl kc_5 wy_Rd_readFigures rfl wl_402 rfl ⟨(Nat.le_of_ble_eq_true rfl), (Nat.le_of_ble_eq_true rfl)⟩ rfl (Nat.le_of_ble_eq_true rfl) dX5_readClause_101 ?_
        refine gm_goto C 132 dX5_readClause_104 (by decide) ?_
        refine gm_aload_n C dX5_readClause_132 rfl 1 rfl ?_
        obtain ⟨S9, eS9, hf⟩ := gm_bp1_s hf
        refine gm_callVv (As := []) C (Rd_readEnd_c l cf ad eS9) (Nat.le_of_ble_eq_true rfl) rfl kc_5 wy_Rd_readEnd rfl wl_469 rfl ⟨(Nat.le_of_ble_eq_true rfl), (Nat.le_of_ble_eq_true rfl)⟩ rfl (Nat.le_of_ble_eq_true rfl) dX5_readClause_133 ?_
        exact gm_vret C hr dX5_readClause_136 hf
      · have hf := gm_if _ c7 hf
        by_cases c10 : v1 = 109
        · have hf := gm_it _ c10 hf
          refine gm_lookup (off := 48) C 107 dX5_readClause_59 rfl (by rw [c10] <;> rfl) (by decide) ?_
          refine gm_aload_n C dX5_readClause_107 rfl 1 rfl ?_
          obtain ⟨S11, eS11, hf⟩ := gm_bp1_s hf
          refine gm_callVv (As := []) C (Rd_readMode_c l cf ad eS11) (Nat.le_of_ble_eq_true rfl) rfl kc_5 wy_Rd_readMode rfl wl_414 rfl ⟨(Nat.le_of_ble_eq_true rfl), (Nat.le_of_ble_eq_true rfl)⟩ rfl (Nat.le_of_ble_eq_true rfl) dX5_readClause_108 ?_
          refine gm_goto C 132 dX5_readClause_111 (by decide) ?_
          refine gm_aload_n C dX5_readClause_132 rfl 1 rfl ?_
          obtain ⟨S12, eS12, hf⟩ := gm_bp1_s hf
          refine gm_callVv (As := []) C (Rd_readEnd_c l cf ad eS12) (Nat.le_of_ble_eq_true rfl) rfl kc_5 wy_Rd_readEnd rfl wl_469 rfl ⟨(Nat.le_of_ble_eq_true rfl), (Nat.le_of_ble_eq_true rfl)⟩ rfl (Nat.le_of_ble_eq_true rfl) dX5_readClause_133 ?_
          exact gm_vret C hr dX5_readClause_136 hf
        · have hf := gm_if _ c10 hf
          by_cases c13 : v1 = 110
          · have hf := gm_it _ c13 hf
            refine gm_lookup (off := 62) C 121 dX5_readClause_59 rfl (by rw [c13] <;> rfl) (by decide) ?_
            refine gm_aload_n C dX5_readClause_121 rfl 1 rfl ?_
            obtain ⟨S14, eS14, hf⟩ := gm_bp1_s hf
            refine gm_callVv (As := []) C (Rd_readRoll_c l cf ad eS14) (Nat.le_of_ble_eq_true rfl) rfl kc_5 wy_Rd_readRoll rfl wl_445 rfl ⟨(Nat.le_of_ble_eq_true rfl), (Nat.le_of_ble_eq_true rfl)⟩ rfl (Nat.le_of_ble_eq_true rfl) dX5_readClause_122 ?_
            refine gm_goto C 132 dX5_readClause_125 (by decide) ?_
            refine gm_aload_n C dX5_readClause_132 rfl 1 rfl ?_
            obtain ⟨S15, eS15, hf⟩ := gm_bp1_s hf
            refine gm_callVv (As := []) C (Rd_readEnd_c l cf ad eS15) (Nat.le_of_ble_eq_true rfl) rfl kc_5 wy_Rd_readEnd rfl wl_469 rfl ⟨(Nat.le_of_ble_eq_true rfl), (Nat.le_of_ble_eq_true rfl)⟩ rfl (Nat.le_of_ble_eq_true rfl) dX5_readClause_133 ?_
            exact gm_vret C hr dX5_readClause_136 hf
          · have hf := gm_if _ c13 hf
            by_cases c16 : v1 = 114
            · have hf := gm_it _ c16 hf
              refine gm_lookup (off := 55) C 114 dX5_readClause_59 rfl (by rw [c16] <;> rfl) (by decide) ?_
              refine gm_aload_n C dX5_readClause_114 rfl 1 rfl ?_
              obtain ⟨S17, eS17, hf⟩ := gm_bp1_s hf
              refine gm_callVv (As := []) C (Rd_readRule_c l cf ad eS17) (Nat.le_of_ble_eq_true rfl) rfl kc_5 wy_Rd_readRule rfl wl_418 rfl ⟨(Nat.le_of_ble_eq_true rfl), (Nat.le_of_ble_eq_true rfl)⟩ rfl (Nat.le_of_ble_eq_true rfl) dX5_readClause_115 ?_
              refine gm_goto C 132 dX5_readClause_118 (by decide) ?_
              refine gm_aload_n C dX5_readClause_132 rfl 1 rfl ?_
              obtain ⟨S18, eS18, hf⟩ := gm_bp1_s hf
              refine gm_callVv (As := []) C (Rd_readEnd_c l cf ad eS18) (Nat.le_of_ble_eq_true rfl) rfl kc_5 wy_Rd_readEnd rfl wl_469 rfl ⟨(Nat.le_of_ble_eq_true rfl), (Nat.le_of_ble_eq_true rfl)⟩ rfl (Nat.le_of_ble_eq_true rfl) dX5_readClause_133 ?_
              exact gm_vret C hr dX5_readClause_136 hf
            · have hf := gm_if _ c16 hf
              refine gm_lookup (off := 69) C 128 dX5_readClause_59 rfl (by show Op.lookupswitch.offset [(100, 41), (109, 48), (110, 62), (114, 55)] 69 _ = 69; rw [lv_osw (a := 100) c7 (by decide), lv_osw (a := 109) c10 (by decide), lv_osw (a := 110) c13 (by decide), lv_osw (a := 114) c16 (by decide)] <;> rfl) (by decide) ?_
              refine gm_aload_n C dX5_readClause_128 rfl 1 rfl ?_
              obtain ⟨S19, eS19, hf⟩ := gm_bp1_s hf
              refine gm_callVv (As := []) C (Rd_readRider_c l cf ad eS19) (Nat.le_of_ble_eq_true rfl) rfl kc_5 wy_Rd_readRider rfl wl_461 rfl ⟨(Nat.le_of_ble_eq_true rfl), (Nat.le_of_ble_eq_true rfl)⟩ rfl (Nat.le_of_ble_eq_true rfl) dX5_readClause_129 ?_
              refine gm_aload_n C dX5_readClause_132 rfl 1 rfl ?_
              obtain ⟨S20, eS20, hf⟩ := gm_bp1_s hf
              refine gm_callVv (As := []) C (Rd_readEnd_c l cf ad eS20) (Nat.le_of_ble_eq_true rfl) rfl kc_5 wy_Rd_readEnd rfl wl_469 rfl ⟨(Nat.le_of_ble_eq_true rfl), (Nat.le_of_ble_eq_true rfl)⟩ rfl (Nat.le_of_ble_eq_true rfl) dX5_readClause_133 ?_
              exact gm_vret C hr dX5_readClause_136 hf
    · have hf := gm_if _ c5 hf
      refine gm_aload_n C dX5_readClause_38 rfl 1 rfl ?_
      refine gm_iconst (v := 3) C dX5_readClause_39 (by decide) ?_
      refine gm_aload_n C dX5_readClause_40 rfl 1 rfl ?_
      refine gm_geti C (Nat.le_of_ble_eq_true rfl) rfl kc_5 (k := 2) rfl (by decide) rfl wl_153 dX5_readClause_41 ?_
      obtain ⟨S21, eS21, hf⟩ := gm_bp1_s hf
      refine gm_callVv (As := [.int 3, .int (S.1 1 2)]) C (Rd_setFault_c l cf ad eS21) (Nat.le_of_ble_eq_true rfl) rfl kc_5 wy_Rd_setFault rfl wl_394 rfl ⟨(Nat.le_of_ble_eq_true rfl), (Nat.le_of_ble_eq_true rfl)⟩ rfl (Nat.le_of_ble_eq_true rfl) dX5_readClause_44 ?_
      exact gm_vret C hr dX5_readClause_47 hf
  · have hf := gm_it _ c3 hf
    refine gm_aload_n C dX5_readClause_20 rfl 1 rfl ?_
    refine gm_iconst (v := 1) C dX5_readClause_21 (by decide) ?_
    refine gm_aload_n C dX5_readClause_22 rfl 1 rfl ?_
    refine gm_geti C (Nat.le_of_ble_eq_true rfl) rfl kc_5 (k := 2) rfl (by decide) rfl wl_153 dX5_readClause_23 ?_
    obtain ⟨S22, eS22, hf⟩ := gm_bp1_s hf
    refine gm_callVv (As := [.int 1, .int (S.1 1 2)]) C (Rd_setFault_c l cf ad eS22) (Nat.le_of_ble_eq_true rfl) rfl kc_5 wy_Rd_setFault rfl wl_394 rfl ⟨(Nat.le_of_ble_eq_true rfl), (Nat.le_of_ble_eq_true rfl)⟩ rfl (Nat.le_of_ble_eq_true rfl) dX5_readClause_26 ?_
    exact gm_vret C hr dX5_readClause_29 hf
