theorem dX9_hasRoll_0 : decode cX9_hasRoll 0 = .ok (.iload_n 1, 1) := by decide +kernel
theorem dX9_hasRoll_1 : decode cX9_hasRoll 1 = .ok (.ifCond .lt 15, 3) := by decide +kernel
theorem dX9_hasRoll_4 : decode cX9_hasRoll 4 = .ok (.iload_n 1, 1) := by decide +kernel
theorem dX9_hasRoll_5 : decode cX9_hasRoll 5 = .ok (.aload_n 0, 1) := by decide +kernel
theorem dX9_hasRoll_6 : decode cX9_hasRoll 6 = .ok (.getfield 34, 3) := by decide +kernel
theorem dX9_hasRoll_9 : decode cX9_hasRoll 9 = .ok (.if_icmp .ge 7, 3) := by decide +kernel
theorem dX9_hasRoll_12 : decode cX9_hasRoll 12 = .ok (.iconst 1, 1) := by decide +kernel
theorem dX9_hasRoll_13 : decode cX9_hasRoll 13 = .ok (.goto 4, 3) := by decide +kernel
theorem dX9_hasRoll_16 : decode cX9_hasRoll 16 = .ok (.iconst 0, 1) := by decide +kernel
theorem dX9_hasRoll_17 : decode cX9_hasRoll 17 = .ok (.ireturn, 1) := by decide +kernel
def Tr_hasRoll (t : Nat) (a0 : Int32) (S : gm_M) : Option Int32 :=
  if a0 < 0 then (
    some (0)
  ) else (
    if S.1 t 7 ≤ a0 then (
      some (0)
    ) else (
      some (1)
    )
  )
set_option maxHeartbeats 4000000 in
set_option maxRecDepth 100000 in
theorem Tr_hasRoll_c (l : Launch) (cf : gm_C) (ad : Nat → Nat)  {t : Nat} (ht : gm_isTr t) {a0 : Int32} {S : gm_M} {r : Int32}  (hf : Tr_hasRoll t a0 S = some r) : gm_Met l yX9_hasRoll cX9_hasRoll 2 (some .boolean) 0 0 cf ad gm_sC 106 [.ref (ad t), .int a0] S (some (.int r)) S := by
  refine gm_met (by decide +kernel) (Nat.le_of_ble_eq_true rfl) ?_
  intro p e s m args below meth c C hr
  have C : gm_F p s m args meth c cf ad 106 cX9_hasRoll 2 RX9 := C
  refine gm_lve (lv' := [(0, .ref (ad t)), (1, .int a0)]) rfl ?_
  unfold Tr_hasRoll at hf
  refine gm_iload_n C dX9_hasRoll_0 rfl 1 rfl ?_
  refine gm_if_lt C 16 dX9_hasRoll_1 (by decide) (fun c1 => ?_) (fun c1 => ?_)
  · have hf := gm_it _ c1 hf
    refine gm_iconst (v := 0) C dX9_hasRoll_16 (by decide) ?_
    exact gm_iretK C hr rfl dX9_hasRoll_17 hf
  · have hf := gm_if _ c1 hf
    refine gm_iload_n C dX9_hasRoll_4 rfl 1 rfl ?_
    refine gm_aload_n C dX9_hasRoll_5 rfl 0 rfl ?_
    refine gm_geti C (gm_tr_l0 ht) (gm_tr_k0 ht) kc_9 (k := 7) rfl (by decide) rfl wl_123 dX9_hasRoll_6 ?_
    refine gm_icmp_ge C 16 dX9_hasRoll_9 (by decide) (fun c2 => ?_) (fun c2 => ?_)
    · have hf := gm_it _ c2 hf
      refine gm_iconst (v := 0) C dX9_hasRoll_16 (by decide) ?_
      exact gm_iretK C hr rfl dX9_hasRoll_17 hf
    · have hf := gm_if _ c2 hf
      refine gm_iconst (v := 1) C dX9_hasRoll_12 (by decide) ?_
      refine gm_goto C 17 dX9_hasRoll_13 (by decide) ?_
      exact gm_iretK C hr rfl dX9_hasRoll_17 hf
theorem dX10_whoGetsIt_0 : decode cX10_whoGetsIt 0 = .ok (.aload_n 0, 1) := by decide +kernel
theorem dX10_whoGetsIt_1 : decode cX10_whoGetsIt 1 = .ok (.iload_n 1, 1) := by decide +kernel
theorem dX10_whoGetsIt_2 : decode cX10_whoGetsIt 2 = .ok (.invokevirtual 173, 3) := by decide +kernel
theorem dX10_whoGetsIt_5 : decode cX10_whoGetsIt 5 = .ok (.istore_n 2, 1) := by decide +kernel
theorem dX10_whoGetsIt_6 : decode cX10_whoGetsIt 6 = .ok (.iload_n 2, 1) := by decide +kernel
theorem dX10_whoGetsIt_7 : decode cX10_whoGetsIt 7 = .ok (.iconst (-1), 1) := by decide +kernel
theorem dX10_whoGetsIt_8 : decode cX10_whoGetsIt 8 = .ok (.if_icmp .eq 13, 3) := by decide +kernel
theorem dX10_whoGetsIt_11 : decode cX10_whoGetsIt 11 = .ok (.aload_n 0, 1) := by decide +kernel
theorem dX10_whoGetsIt_12 : decode cX10_whoGetsIt 12 = .ok (.getfield 19, 3) := by decide +kernel
theorem dX10_whoGetsIt_15 : decode cX10_whoGetsIt 15 = .ok (.getfield 109, 3) := by decide +kernel
theorem dX10_whoGetsIt_18 : decode cX10_whoGetsIt 18 = .ok (.ifCond .ne 7, 3) := by decide +kernel
theorem dX10_whoGetsIt_21 : decode cX10_whoGetsIt 21 = .ok (.iconst (-1), 1) := by decide +kernel
theorem dX10_whoGetsIt_22 : decode cX10_whoGetsIt 22 = .ok (.goto 12, 3) := by decide +kernel
theorem dX10_whoGetsIt_25 : decode cX10_whoGetsIt 25 = .ok (.iload_n 2, 1) := by decide +kernel
theorem dX10_whoGetsIt_26 : decode cX10_whoGetsIt 26 = .ok (.aload_n 0, 1) := by decide +kernel
theorem dX10_whoGetsIt_27 : decode cX10_whoGetsIt 27 = .ok (.getfield 19, 3) := by decide +kernel
theorem dX10_whoGetsIt_30 : decode cX10_whoGetsIt 30 = .ok (.getfield 109, 3) := by decide +kernel
theorem dX10_whoGetsIt_33 : decode cX10_whoGetsIt 33 = .ok (.irem, 1) := by decide +kernel
theorem dX10_whoGetsIt_34 : decode cX10_whoGetsIt 34 = .ok (.ireturn, 1) := by decide +kernel
def Lt_whoGetsIt (fl : Nat) (a0 : Int32) (S : gm_M) : Option Int32 :=
  gm_bp1 (Lt_soonFrom fl a0 S) fun v1 =>
  if v1 = (-1) then (
    some ((-1))
  ) else (
    if S.1 8 8 = 0 then (
      some ((-1))
    ) else (
      if S.1 8 8 = 0 then none else
      some (gm_rm v1 (S.1 8 8))
    )
  )
set_option maxHeartbeats 4000000 in
set_option maxRecDepth 100000 in
theorem Lt_whoGetsIt_c (l : Launch) (cf : gm_C) (ad : Nat → Nat) {fl : Nat}   {a0 : Int32} {S : gm_M} {r : Int32}  (hf : Lt_whoGetsIt fl a0 S = some r) : gm_Met l yX10_whoGetsIt cX10_whoGetsIt 3 (some .int) 3 67 cf ad gm_sC 106 [.ref (ad 0), .int a0] S (some (.int r)) S := by
  refine gm_met (by decide +kernel) (Nat.le_of_ble_eq_true rfl) ?_
  intro p e s m args below meth c C hr
  have C : gm_F p s m args meth c cf ad 106 cX10_whoGetsIt 3 RX10 := C
  refine gm_lve (lv' := [(0, .ref (ad 0)), (1, .int a0)]) rfl ?_
  unfold Lt_whoGetsIt at hf
  refine gm_aload_n C dX10_whoGetsIt_0 rfl 0 rfl ?_
  refine gm_iload_n C dX10_whoGetsIt_1 rfl 1 rfl ?_
  obtain ⟨v1, ev1, hf⟩ := gm_bp1_s hf
  refine gm_callVi (As := [.int a0]) C (Lt_soonFrom_c l cf ad ev1) (Nat.le_of_ble_eq_true rfl) rfl kc_10 wy_Lt_soonFrom rfl wl_563 rfl ⟨(Nat.le_of_ble_eq_true rfl), (Nat.le_of_ble_eq_true rfl)⟩ rfl (Nat.le_of_ble_eq_true rfl) dX10_whoGetsIt_2 ?_
  refine gm_istore_n (lv' := [(2, .int v1), (0, .ref (ad 0)), (1, .int a0)]) C dX10_whoGetsIt_5 rfl (by decide) rfl ?_
  refine gm_iload_n C dX10_whoGetsIt_6 rfl 0 rfl ?_
  refine gm_iconst (v := (-1)) C dX10_whoGetsIt_7 (by decide) ?_
  refine gm_icmp_eq C 21 dX10_whoGetsIt_8 (by decide) (fun c2 => ?_) (fun c2 => ?_)
  · have hf := gm_it _ c2 hf
    refine gm_iconst (v := (-1)) C dX10_whoGetsIt_21 (by decide) ?_
    refine gm_goto C 34 dX10_whoGetsIt_22 (by decide) ?_
    exact gm_iretK C hr rfl dX10_whoGetsIt_34 hf
  · have hf := gm_if _ c2 hf
    refine gm_aload_n C dX10_whoGetsIt_11 rfl 1 rfl ?_
    refine gm_getr (j := 8) (u := 8) C (Nat.le_of_ble_eq_true rfl) rfl kc_10 (k := 1) rfl (by decide) rfl rfl wl_329 dX10_whoGetsIt_12 ?_
    refine gm_geti C (Nat.le_of_ble_eq_true rfl) rfl kc_9 (k := 8) rfl (by decide) rfl wl_127 dX10_whoGetsIt_15 ?_
    refine gm_if_ne C 25 dX10_whoGetsIt_18 (by decide) (fun c3 => ?_) (fun c3 => ?_)
    · have hf := gm_if _ c3 hf
      refine gm_iload_n C dX10_whoGetsIt_25 rfl 0 rfl ?_
      refine gm_aload_n C dX10_whoGetsIt_26 rfl 1 rfl ?_
      refine gm_getr (j := 8) (u := 8) C (Nat.le_of_ble_eq_true rfl) rfl kc_10 (k := 1) rfl (by decide) rfl rfl wl_329 dX10_whoGetsIt_27 ?_
      refine gm_geti C (Nat.le_of_ble_eq_true rfl) rfl kc_9 (k := 8) rfl (by decide) rfl wl_127 dX10_whoGetsIt_30 ?_
      obtain ⟨h4, hf⟩ := gm_iz _ hf
      refine gm_irem C dX10_whoGetsIt_33 h4 ?_
      exact gm_iretK C hr rfl dX10_whoGetsIt_34 hf
    · have hf := gm_it _ c3 hf
      refine gm_iconst (v := (-1)) C dX10_whoGetsIt_21 (by decide) ?_
      refine gm_goto C 34 dX10_whoGetsIt_22 (by decide) ?_
      exact gm_iretK C hr rfl dX10_whoGetsIt_34 hf
theorem dX10_luckyLeft_0 : decode cX10_luckyLeft 0 = .ok (.aload_n 0, 1) := by decide +kernel
theorem dX10_luckyLeft_1 : decode cX10_luckyLeft 1 = .ok (.getfield 19, 3) := by decide +kernel
theorem dX10_luckyLeft_4 : decode cX10_luckyLeft 4 = .ok (.iload_n 1, 1) := by decide +kernel
theorem dX10_luckyLeft_5 : decode cX10_luckyLeft 5 = .ok (.invokevirtual 170, 3) := by decide +kernel
theorem dX10_luckyLeft_8 : decode cX10_luckyLeft 8 = .ok (.istore_n 2, 1) := by decide +kernel
theorem dX10_luckyLeft_9 : decode cX10_luckyLeft 9 = .ok (.aload_n 0, 1) := by decide +kernel
theorem dX10_luckyLeft_10 : decode cX10_luckyLeft 10 = .ok (.getfield 19, 3) := by decide +kernel
theorem dX10_luckyLeft_13 : decode cX10_luckyLeft 13 = .ok (.iload_n 1, 1) := by decide +kernel
theorem dX10_luckyLeft_14 : decode cX10_luckyLeft 14 = .ok (.invokevirtual 167, 3) := by decide +kernel
theorem dX10_luckyLeft_17 : decode cX10_luckyLeft 17 = .ok (.istore_n 3, 1) := by decide +kernel
theorem dX10_luckyLeft_18 : decode cX10_luckyLeft 18 = .ok (.iconst 0, 1) := by decide +kernel
theorem dX10_luckyLeft_19 : decode cX10_luckyLeft 19 = .ok (.istore 4, 2) := by decide +kernel
theorem dX10_luckyLeft_21 : decode cX10_luckyLeft 21 = .ok (.iconst 0, 1) := by decide +kernel
theorem dX10_luckyLeft_22 : decode cX10_luckyLeft 22 = .ok (.istore 5, 2) := by decide +kernel
theorem dX10_luckyLeft_24 : decode cX10_luckyLeft 24 = .ok (.iload 5, 2) := by decide +kernel
theorem dX10_luckyLeft_26 : decode cX10_luckyLeft 26 = .ok (.iload_n 2, 1) := by decide +kernel
theorem dX10_luckyLeft_27 : decode cX10_luckyLeft 27 = .ok (.if_icmp .ge 32, 3) := by decide +kernel
theorem dX10_luckyLeft_30 : decode cX10_luckyLeft 30 = .ok (.aload_n 0, 1) := by decide +kernel
theorem dX10_luckyLeft_31 : decode cX10_luckyLeft 31 = .ok (.getfield 26, 3) := by decide +kernel
theorem dX10_luckyLeft_34 : decode cX10_luckyLeft 34 = .ok (.iload_n 3, 1) := by decide +kernel
theorem dX10_luckyLeft_35 : decode cX10_luckyLeft 35 = .ok (.invokevirtual 198, 3) := by decide +kernel
theorem dX10_luckyLeft_38 : decode cX10_luckyLeft 38 = .ok (.ifCond .eq 6, 3) := by decide +kernel
theorem dX10_luckyLeft_41 : decode cX10_luckyLeft 41 = .ok (.iinc 4 1, 3) := by decide +kernel
theorem dX10_luckyLeft_44 : decode cX10_luckyLeft 44 = .ok (.aload_n 0, 1) := by decide +kernel
theorem dX10_luckyLeft_45 : decode cX10_luckyLeft 45 = .ok (.getfield 19, 3) := by decide +kernel
theorem dX10_luckyLeft_48 : decode cX10_luckyLeft 48 = .ok (.iload_n 3, 1) := by decide +kernel
theorem dX10_luckyLeft_49 : decode cX10_luckyLeft 49 = .ok (.invokevirtual 293, 3) := by decide +kernel
theorem dX10_luckyLeft_52 : decode cX10_luckyLeft 52 = .ok (.istore_n 3, 1) := by decide +kernel
theorem dX10_luckyLeft_53 : decode cX10_luckyLeft 53 = .ok (.iinc 5 1, 3) := by decide +kernel
theorem dX10_luckyLeft_56 : decode cX10_luckyLeft 56 = .ok (.goto (-32), 3) := by decide +kernel
theorem dX10_luckyLeft_59 : decode cX10_luckyLeft 59 = .ok (.iload 4, 2) := by decide +kernel
theorem dX10_luckyLeft_61 : decode cX10_luckyLeft 61 = .ok (.ireturn, 1) := by decide +kernel
def Lt_luckyLeft_L24_b (fl : Nat) (S : gm_M) (v1 : Int32) (rec : Int32 → Int32 → Int32 → Option (Int32)) (y3 : Int32) (y4 : Int32) (y5 : Int32) : Option (Int32) :=
  if v1 ≤ y5 then (
    some (y4)
  ) else (
    gm_bp1 (Tb_isLucky y3 S) fun v8 =>
    gm_bp1 (show Option (Int32) from
      if v8 = 0 then (
        some (y4)
      ) else (
        gm_lt (α := Int32) (y4 + 1) fun x13 =>
        some (x13)
      )
    ) fun x9 =>
    gm_bp1 (Tr_behind fl 8 y3 S) fun v10 =>
    gm_lt (α := Int32) (y5 + 1) fun x11 =>
    rec v10 x9 x11
  )
def Lt_luckyLeft_L24 (fl : Nat) (S : gm_M) (v1 : Int32) : Nat → Int32 → Int32 → Int32 → Option (Int32)
  | 0 => fun _ _ _ => none
  | n + 1 => Lt_luckyLeft_L24_b fl S v1 (Lt_luckyLeft_L24 fl S v1 n)
def Lt_luckyLeft (fl : Nat) (a0 : Int32) (S : gm_M) : Option Int32 :=
  gm_bp1 (Tr_ticketsLeft 8 a0 S) fun v1 =>
  gm_bp1 (Tr_nextTicket 8 a0 S) fun v2 =>
  gm_bp1 (Lt_luckyLeft_L24 fl S v1 fl v2 0 0) fun z6 =>
  some (z6)
set_option maxHeartbeats 4000000 in
set_option maxRecDepth 100000 in
theorem Lt_luckyLeft_c (l : Launch) (cf : gm_C) (ad : Nat → Nat) {fl : Nat}   {a0 : Int32} {S : gm_M} {r : Int32}  (hf : Lt_luckyLeft fl a0 S = some r) : gm_Met l yX10_luckyLeft cX10_luckyLeft 6 (some .int) 2 43 cf ad gm_sC 106 [.ref (ad 0), .int a0] S (some (.int r)) S := by
  refine gm_met (by decide +kernel) (Nat.le_of_ble_eq_true rfl) ?_
  intro p e s m args below meth c C hr
  have C : gm_F p s m args meth c cf ad 106 cX10_luckyLeft 6 RX10 := C
  refine gm_lve (lv' := [(0, .ref (ad 0)), (1, .int a0)]) rfl ?_
  unfold Lt_luckyLeft at hf
  refine gm_aload_n C dX10_luckyLeft_0 rfl 0 rfl ?_
  refine gm_getr (j := 8) (u := 8) C (Nat.le_of_ble_eq_true rfl) rfl kc_10 (k := 1) rfl (by decide) rfl rfl wl_329 dX10_luckyLeft_1 ?_
  refine gm_iload_n C dX10_luckyLeft_4 rfl 1 rfl ?_
  obtain ⟨v1, ev1, hf⟩ := gm_bp1_s hf
  refine gm_callVi (As := [.int a0]) C (Tr_ticketsLeft_c l cf ad gm_tr_8 ev1) (Nat.le_of_ble_eq_true rfl) rfl kc_9 wy_Tr_ticketsLeft rfl wl_567 rfl ⟨(Nat.le_of_ble_eq_true rfl), (Nat.le_of_ble_eq_true rfl)⟩ rfl (Nat.le_of_ble_eq_true rfl) dX10_luckyLeft_5 ?_
  refine gm_istore_n (lv' := [(2, .int v1), (0, .ref (ad 0)), (1, .int a0)]) C dX10_luckyLeft_8 rfl (by decide) rfl ?_
  refine gm_aload_n C dX10_luckyLeft_9 rfl 1 rfl ?_
  refine gm_getr (j := 8) (u := 8) C (Nat.le_of_ble_eq_true rfl) rfl kc_10 (k := 1) rfl (by decide) rfl rfl wl_329 dX10_luckyLeft_10 ?_
  refine gm_iload_n C dX10_luckyLeft_13 rfl 2 rfl ?_
  obtain ⟨v2, ev2, hf⟩ := gm_bp1_s hf
  refine gm_callVi (As := [.int a0]) C (Tr_nextTicket_c l cf ad gm_tr_8 ev2) (Nat.le_of_ble_eq_true rfl) rfl kc_9 wy_Tr_nextTicket rfl wl_571 rfl ⟨(Nat.le_of_ble_eq_true rfl), (Nat.le_of_ble_eq_true rfl)⟩ rfl (Nat.le_of_ble_eq_true rfl) dX10_luckyLeft_14 ?_
  refine gm_istore_n (lv' := [(3, .int v2), (2, .int v1), (0, .ref (ad 0)), (1, .int a0)]) C dX10_luckyLeft_17 rfl (by decide) rfl ?_
  refine gm_iconst (v := 0) C dX10_luckyLeft_18 (by decide) ?_
  refine gm_istore (lv' := [(4, .int 0), (3, .int v2), (2, .int v1), (0, .ref (ad 0)), (1, .int a0)]) C dX10_luckyLeft_19 (by decide) rfl ?_
  refine gm_iconst (v := 0) C dX10_luckyLeft_21 (by decide) ?_
  refine gm_istore (lv' := [(5, .int 0), (4, .int 0), (3, .int v2), (2, .int v1), (0, .ref (ad 0)), (1, .int a0)]) C dX10_luckyLeft_22 (by decide) rfl ?_
  have L24 : ∀ (n : Nat) (y3 : Int32) (y4 : Int32) (y5 : Int32) (z6 : Int32), Lt_luckyLeft_L24 fl S v1 n y3 y4 y5 = some (z6) → gm_G p l e { frames := 2, cells := 0, slots := 0, locals := 43 } s m args below meth c (MQ below (gm_Q cf ad gm_sC 106 (some (.int r)) S) args s 0 0 (gm_A ad 106)) cf ad gm_sC 106 6 S 59 [(4, .int z6)] [] → gm_G p l e { frames := 2, cells := 0, slots := 0, locals := 43 } s m args below meth c (MQ below (gm_Q cf ad gm_sC 106 (some (.int r)) S) args s 0 0 (gm_A ad 106)) cf ad gm_sC 106 6 S 24 [(0, .ref (ad 0)), (2, .int v1), (3, .int y3), (4, .int y4), (5, .int y5)] [] := by
    intro n
    induction n with
    | zero => intro y3 y4 y5 z6 hf K; cases (show (none : Option _) = some _ from hf)
    | succ n ih =>
      intro y3 y4 y5 z6 hf K
      have hf : Lt_luckyLeft_L24_b fl S v1 (Lt_luckyLeft_L24 fl S v1 n) y3 y4 y5 = some (z6) := hf
      unfold Lt_luckyLeft_L24_b at hf
      refine gm_iload C dX10_luckyLeft_24 4 rfl ?_
      refine gm_iload_n C dX10_luckyLeft_26 rfl 1 rfl ?_
      refine gm_icmp_ge C 59 dX10_luckyLeft_27 (by decide) (fun c7 => ?_) (fun c7 => ?_)
      · have hf := gm_it _ c7 hf
        cases hf
        exact gm_lvp [3] rfl K
      · have hf := gm_if _ c7 hf
        refine gm_aload_n C dX10_luckyLeft_30 rfl 0 rfl ?_
        refine gm_getr (j := 12) (u := 12) C (Nat.le_of_ble_eq_true rfl) rfl kc_10 (k := 2) rfl (by decide) rfl rfl wl_330 dX10_luckyLeft_31 ?_
        refine gm_iload_n C dX10_luckyLeft_34 rfl 2 rfl ?_
        obtain ⟨v8, ev8, hf⟩ := gm_bp1_s hf
        refine gm_callVi (As := [.int y3]) C (Tb_isLucky_c l cf ad ev8) (Nat.le_of_ble_eq_true rfl) rfl kc_3 wy_Tb_isLucky rfl wl_575 rfl ⟨(Nat.le_of_ble_eq_true rfl), (Nat.le_of_ble_eq_true rfl)⟩ rfl (Nat.le_of_ble_eq_true rfl) dX10_luckyLeft_35 ?_
        obtain ⟨x9, hx, hf⟩ := gm_bp1_s hf
        have key : gm_G p l e { frames := 2, cells := 0, slots := 0, locals := 43 } s m args below meth c (MQ below (gm_Q cf ad gm_sC 106 (some (.int r)) S) args s 0 0 (gm_A ad 106)) cf ad gm_sC 106 6 S 44 [(0, .ref (ad 0)), (2, .int v1), (3, .int y3), (4, .int x9), (5, .int y5)] [] := by
          refine gm_aload_n C dX10_luckyLeft_44 rfl 0 rfl ?_
          refine gm_getr (j := 8) (u := 8) C (Nat.le_of_ble_eq_true rfl) rfl kc_10 (k := 1) rfl (by decide) rfl rfl wl_329 dX10_luckyLeft_45 ?_
          refine gm_iload_n C dX10_luckyLeft_48 rfl 2 rfl ?_
          obtain ⟨v10, ev10, hf⟩ := gm_bp1_s hf
          refine gm_callVi (As := [.int y3]) C (Tr_behind_c l cf ad gm_tr_8 ev10) (Nat.le_of_ble_eq_true rfl) rfl kc_9 wy_Tr_behind rfl wl_579 rfl ⟨(Nat.le_of_ble_eq_true rfl), (Nat.le_of_ble_eq_true rfl)⟩ rfl (Nat.le_of_ble_eq_true rfl) dX10_luckyLeft_49 ?_
          refine gm_istore_n (lv' := [(3, .int v10), (0, .ref (ad 0)), (2, .int v1), (4, .int x9), (5, .int y5)]) C dX10_luckyLeft_52 rfl (by decide) rfl ?_
          obtain ⟨x11, ex11, hf⟩ := gm_lt_s hf
          refine gm_iinc (v := x11) (lv' := [(5, .int x11), (3, .int v10), (0, .ref (ad 0)), (2, .int v1), (4, .int x9)]) (j := 4) C dX10_luckyLeft_53 rfl (by rw [ex11]; rfl) (by decide) rfl ?_
          refine gm_goto C 24 dX10_luckyLeft_56 (by decide) ?_
          exact gm_lvp [2, 3, 1, 4, 0] rfl (ih _ _ _ _ hf K)
        have hf := hx
        refine gm_if_eq C 44 dX10_luckyLeft_38 (by decide) (fun c12 => ?_) (fun c12 => ?_)
        · have hf := gm_it _ c12 hf
          cases hf
          exact gm_lvp [0, 1, 2, 3, 4] rfl key
        · have hf := gm_if _ c12 hf
          obtain ⟨x13, ex13, hf⟩ := gm_lt_s hf
          refine gm_iinc (v := x13) (lv' := [(4, .int x13), (0, .ref (ad 0)), (2, .int v1), (3, .int y3), (5, .int y5)]) (j := 3) C dX10_luckyLeft_41 rfl (by rw [ex13]; rfl) (by decide) rfl ?_
          cases hf
          exact gm_lvp [1, 2, 3, 0, 4] rfl key
  obtain ⟨z6, hx, hf⟩ := gm_bp1_s hf
  refine gm_lvp [4, 3, 2, 1, 0] rfl (L24 fl _ _ _ _ hx ?_)
  refine gm_iload C dX10_luckyLeft_59 0 rfl ?_
  exact gm_iretK C hr rfl dX10_luckyLeft_61 hf
theorem dX10_partDivisor_0 : decode cX10_partDivisor 0 = .ok (.aload_n 0, 1) := by decide +kernel
theorem dX10_partDivisor_1 : decode cX10_partDivisor 1 = .ok (.getfield 19, 3) := by decide +kernel
theorem dX10_partDivisor_4 : decode cX10_partDivisor 4 = .ok (.iload_n 1, 1) := by decide +kernel
theorem dX10_partDivisor_5 : decode cX10_partDivisor 5 = .ok (.invokevirtual 170, 3) := by decide +kernel
theorem dX10_partDivisor_8 : decode cX10_partDivisor 8 = .ok (.istore_n 2, 1) := by decide +kernel
theorem dX10_partDivisor_9 : decode cX10_partDivisor 9 = .ok (.aload_n 0, 1) := by decide +kernel
theorem dX10_partDivisor_10 : decode cX10_partDivisor 10 = .ok (.iload_n 1, 1) := by decide +kernel
theorem dX10_partDivisor_11 : decode cX10_partDivisor 11 = .ok (.invokevirtual 179, 3) := by decide +kernel
theorem dX10_partDivisor_14 : decode cX10_partDivisor 14 = .ok (.istore_n 3, 1) := by decide +kernel
theorem dX10_partDivisor_15 : decode cX10_partDivisor 15 = .ok (.iconst 0, 1) := by decide +kernel
theorem dX10_partDivisor_16 : decode cX10_partDivisor 16 = .ok (.istore 4, 2) := by decide +kernel
theorem dX10_partDivisor_18 : decode cX10_partDivisor 18 = .ok (.iload 4, 2) := by decide +kernel
theorem dX10_partDivisor_20 : decode cX10_partDivisor 20 = .ok (.sipush 200, 3) := by decide +kernel
theorem dX10_partDivisor_23 : decode cX10_partDivisor 23 = .ok (.if_icmp .ge 23, 3) := by decide +kernel
theorem dX10_partDivisor_26 : decode cX10_partDivisor 26 = .ok (.iload_n 3, 1) := by decide +kernel
theorem dX10_partDivisor_27 : decode cX10_partDivisor 27 = .ok (.ifCond .le 19, 3) := by decide +kernel
theorem dX10_partDivisor_30 : decode cX10_partDivisor 30 = .ok (.iload_n 2, 1) := by decide +kernel
theorem dX10_partDivisor_31 : decode cX10_partDivisor 31 = .ok (.iload_n 3, 1) := by decide +kernel
theorem dX10_partDivisor_32 : decode cX10_partDivisor 32 = .ok (.irem, 1) := by decide +kernel
theorem dX10_partDivisor_33 : decode cX10_partDivisor 33 = .ok (.istore 5, 2) := by decide +kernel
theorem dX10_partDivisor_35 : decode cX10_partDivisor 35 = .ok (.iload_n 3, 1) := by decide +kernel
theorem dX10_partDivisor_36 : decode cX10_partDivisor 36 = .ok (.istore_n 2, 1) := by decide +kernel
theorem dX10_partDivisor_37 : decode cX10_partDivisor 37 = .ok (.iload 5, 2) := by decide +kernel
theorem dX10_partDivisor_39 : decode cX10_partDivisor 39 = .ok (.istore_n 3, 1) := by decide +kernel
theorem dX10_partDivisor_40 : decode cX10_partDivisor 40 = .ok (.iinc 4 1, 3) := by decide +kernel
theorem dX10_partDivisor_43 : decode cX10_partDivisor 43 = .ok (.goto (-25), 3) := by decide +kernel
theorem dX10_partDivisor_46 : decode cX10_partDivisor 46 = .ok (.iconst 1, 1) := by decide +kernel
theorem dX10_partDivisor_47 : decode cX10_partDivisor 47 = .ok (.iload_n 2, 1) := by decide +kernel
theorem dX10_partDivisor_48 : decode cX10_partDivisor 48 = .ok (.invokestatic 296, 3) := by decide +kernel
theorem dX10_partDivisor_51 : decode cX10_partDivisor 51 = .ok (.ireturn, 1) := by decide +kernel
def Lt_partDivisor_L18_b  (rec : Int32 → Int32 → Int32 → Option (Int32)) (y3 : Int32) (y4 : Int32) (y5 : Int32) : Option (Int32) :=
  if (200 : Int32) ≤ y5 then (
    some (y3)
  ) else (
    if y4 ≤ 0 then (
      some (y3)
    ) else (
      if y4 = 0 then none else
      gm_lt (α := Int32) (gm_rm y3 y4) fun x10 =>
      gm_lt (α := Int32) (y5 + 1) fun x11 =>
      rec y4 x10 x11
    )
  )
def Lt_partDivisor_L18  : Nat → Int32 → Int32 → Int32 → Option (Int32)
  | 0 => fun _ _ _ => none
  | n + 1 => Lt_partDivisor_L18_b  (Lt_partDivisor_L18  n)
def Lt_partDivisor (fl : Nat) (a0 : Int32) (S : gm_M) : Option Int32 :=
  gm_bp1 (Tr_ticketsLeft 8 a0 S) fun v1 =>
  gm_bp1 (Lt_luckyLeft fl a0 S) fun v2 =>
  gm_bp1 (Lt_partDivisor_L18  fl v1 v2 0) fun z6 =>
  gm_lt (α := Int32) (if 1 < z6 then z6 else 1) fun x12 =>
  some (x12)
set_option maxHeartbeats 4000000 in
set_option maxRecDepth 100000 in
theorem Lt_partDivisor_c (l : Launch) (cf : gm_C) (ad : Nat → Nat) {fl : Nat}   {a0 : Int32} {S : gm_M} {r : Int32}  (hf : Lt_partDivisor fl a0 S = some r) : gm_Met l yX10_partDivisor cX10_partDivisor 6 (some .int) 3 68 cf ad gm_sC 106 [.ref (ad 0), .int a0] S (some (.int r)) S := by
  refine gm_met (by decide +kernel) (Nat.le_of_ble_eq_true rfl) ?_
  intro p e s m args below meth c C hr
  have C : gm_F p s m args meth c cf ad 106 cX10_partDivisor 6 RX10 := C
  refine gm_lve (lv' := [(0, .ref (ad 0)), (1, .int a0)]) rfl ?_
  unfold Lt_partDivisor at hf
  refine gm_aload_n C dX10_partDivisor_0 rfl 0 rfl ?_
  refine gm_getr (j := 8) (u := 8) C (Nat.le_of_ble_eq_true rfl) rfl kc_10 (k := 1) rfl (by decide) rfl rfl wl_329 dX10_partDivisor_1 ?_
  refine gm_iload_n C dX10_partDivisor_4 rfl 1 rfl ?_
  obtain ⟨v1, ev1, hf⟩ := gm_bp1_s hf
  refine gm_callVi (As := [.int a0]) C (Tr_ticketsLeft_c l cf ad gm_tr_8 ev1) (Nat.le_of_ble_eq_true rfl) rfl kc_9 wy_Tr_ticketsLeft rfl wl_567 rfl ⟨(Nat.le_of_ble_eq_true rfl), (Nat.le_of_ble_eq_true rfl)⟩ rfl (Nat.le_of_ble_eq_true rfl) dX10_partDivisor_5 ?_
  refine gm_istore_n (lv' := [(2, .int v1), (0, .ref (ad 0)), (1, .int a0)]) C dX10_partDivisor_8 rfl (by decide) rfl ?_
  refine gm_aload_n C dX10_partDivisor_9 rfl 1 rfl ?_
  refine gm_iload_n C dX10_partDivisor_10 rfl 2 rfl ?_
  obtain ⟨v2, ev2, hf⟩ := gm_bp1_s hf
  refine gm_callVi (As := [.int a0]) C (Lt_luckyLeft_c l cf ad ev2) (Nat.le_of_ble_eq_true rfl) rfl kc_10 wy_Lt_luckyLeft rfl wl_638 rfl ⟨(Nat.le_of_ble_eq_true rfl), (Nat.le_of_ble_eq_true rfl)⟩ rfl (Nat.le_of_ble_eq_true rfl) dX10_partDivisor_11 ?_
  refine gm_istore_n (lv' := [(3, .int v2), (2, .int v1), (0, .ref (ad 0)), (1, .int a0)]) C dX10_partDivisor_14 rfl (by decide) rfl ?_
  refine gm_iconst (v := 0) C dX10_partDivisor_15 (by decide) ?_
  refine gm_istore (lv' := [(4, .int 0), (3, .int v2), (2, .int v1), (0, .ref (ad 0)), (1, .int a0)]) C dX10_partDivisor_16 (by decide) rfl ?_
  have L18 : ∀ (n : Nat) (y3 : Int32) (y4 : Int32) (y5 : Int32) (z6 : Int32), Lt_partDivisor_L18  n y3 y4 y5 = some (z6) → gm_G p l e { frames := 3, cells := 0, slots := 0, locals := 68 } s m args below meth c (MQ below (gm_Q cf ad gm_sC 106 (some (.int r)) S) args s 0 0 (gm_A ad 106)) cf ad gm_sC 106 6 S 46 [(2, .int z6)] [] → gm_G p l e { frames := 3, cells := 0, slots := 0, locals := 68 } s m args below meth c (MQ below (gm_Q cf ad gm_sC 106 (some (.int r)) S) args s 0 0 (gm_A ad 106)) cf ad gm_sC 106 6 S 18 [(2, .int y3), (3, .int y4), (4, .int y5)] [] := by
    intro n
    induction n with
    | zero => intro y3 y4 y5 z6 hf K; cases (show (none : Option _) = some _ from hf)
    | succ n ih =>
      intro y3 y4 y5 z6 hf K
      have hf : Lt_partDivisor_L18_b  (Lt_partDivisor_L18  n) y3 y4 y5 = some (z6) := hf
      unfold Lt_partDivisor_L18_b at hf
      refine gm_iload C dX10_partDivisor_18 2 rfl ?_
      refine gm_sipush (v := 200) C dX10_partDivisor_20 (by decide) ?_
      refine gm_icmp_ge C 46 dX10_partDivisor_23 (by decide) (fun c7 => ?_) (fun c7 => ?_)
      · have hf := gm_it _ c7 hf
        cases hf
        exact gm_lvp [0] rfl K
      · have hf := gm_if _ c7 hf
        refine gm_iload_n C dX10_partDivisor_26 rfl 1 rfl ?_
        refine gm_if_le C 46 dX10_partDivisor_27 (by decide) (fun c8 => ?_) (fun c8 => ?_)
        · have hf := gm_it _ c8 hf
          cases hf
          exact gm_lvp [0] rfl K
        · have hf := gm_if _ c8 hf
          refine gm_iload_n C dX10_partDivisor_30 rfl 0 rfl ?_
          refine gm_iload_n C dX10_partDivisor_31 rfl 1 rfl ?_
          obtain ⟨h9, hf⟩ := gm_iz _ hf
          refine gm_irem C dX10_partDivisor_32 h9 ?_
          obtain ⟨x10, ex10, hf⟩ := gm_lt_s hf
          refine gm_topi ex10 ?_
          refine gm_istore (lv' := [(5, .int x10), (2, .int y3), (3, .int y4), (4, .int y5)]) C dX10_partDivisor_33 (by decide) rfl ?_
          refine gm_iload_n C dX10_partDivisor_35 rfl 2 rfl ?_
          refine gm_istore_n (lv' := [(2, .int y4), (5, .int x10), (3, .int y4), (4, .int y5)]) C dX10_partDivisor_36 rfl (by decide) rfl ?_
          refine gm_iload C dX10_partDivisor_37 1 rfl ?_
          refine gm_istore_n (lv' := [(3, .int x10), (2, .int y4), (5, .int x10), (4, .int y5)]) C dX10_partDivisor_39 rfl (by decide) rfl ?_
          obtain ⟨x11, ex11, hf⟩ := gm_lt_s hf
          refine gm_iinc (v := x11) (lv' := [(4, .int x11), (3, .int x10), (2, .int y4), (5, .int x10)]) (j := 3) C dX10_partDivisor_40 rfl (by rw [ex11]; rfl) (by decide) rfl ?_
          refine gm_goto C 18 dX10_partDivisor_43 (by decide) ?_
          exact gm_lvp [2, 1, 0] rfl (ih _ _ _ _ hf K)
  obtain ⟨z6, hx, hf⟩ := gm_bp1_s hf
  refine gm_lvp [2, 1, 0] rfl (L18 fl _ _ _ _ hx ?_)
  refine gm_iconst (v := 1) C dX10_partDivisor_46 (by decide) ?_
  refine gm_iload_n C dX10_partDivisor_47 rfl 0 rfl ?_
  refine gm_mmax C wl_646 wm_max.1 wm_max.2.1 wm_max.2.2 (Nat.le_of_ble_eq_true rfl) (Nat.le_of_ble_eq_true rfl) dX10_partDivisor_48 ?_
  obtain ⟨x12, ex12, hf⟩ := gm_lt_s hf
  refine gm_topi ex12 ?_
  exact gm_iretK C hr rfl dX10_partDivisor_51 hf
theorem dX10_rollOf_0 : decode cX10_rollOf 0 = .ok (.aload_n 0, 1) := by decide +kernel
theorem dX10_rollOf_1 : decode cX10_rollOf 1 = .ok (.getfield 19, 3) := by decide +kernel
theorem dX10_rollOf_4 : decode cX10_rollOf 4 = .ok (.iload_n 1, 1) := by decide +kernel
theorem dX10_rollOf_5 : decode cX10_rollOf 5 = .ok (.invokevirtual 164, 3) := by decide +kernel
theorem dX10_rollOf_8 : decode cX10_rollOf 8 = .ok (.ifCond .ne 6, 3) := by decide +kernel
theorem dX10_rollOf_11 : decode cX10_rollOf 11 = .ok (.ldc 143, 2) := by decide +kernel
theorem dX10_rollOf_13 : decode cX10_rollOf 13 = .ok (.ireturn, 1) := by decide +kernel
theorem dX10_rollOf_14 : decode cX10_rollOf 14 = .ok (.iload_n 2, 1) := by decide +kernel
theorem dX10_rollOf_15 : decode cX10_rollOf 15 = .ok (.tableswitch 106 0 5 #[37, 46, 55, 61, 67, 79], 37) := by decide +kernel
theorem dX10_rollOf_52 : decode cX10_rollOf 52 = .ok (.aload_n 0, 1) := by decide +kernel
theorem dX10_rollOf_53 : decode cX10_rollOf 53 = .ok (.getfield 19, 3) := by decide +kernel
theorem dX10_rollOf_56 : decode cX10_rollOf 56 = .ok (.iload_n 1, 1) := by decide +kernel
theorem dX10_rollOf_57 : decode cX10_rollOf 57 = .ok (.invokevirtual 167, 3) := by decide +kernel
theorem dX10_rollOf_60 : decode cX10_rollOf 60 = .ok (.ireturn, 1) := by decide +kernel
theorem dX10_rollOf_61 : decode cX10_rollOf 61 = .ok (.aload_n 0, 1) := by decide +kernel
theorem dX10_rollOf_62 : decode cX10_rollOf 62 = .ok (.getfield 19, 3) := by decide +kernel
theorem dX10_rollOf_65 : decode cX10_rollOf 65 = .ok (.iload_n 1, 1) := by decide +kernel
theorem dX10_rollOf_66 : decode cX10_rollOf 66 = .ok (.invokevirtual 170, 3) := by decide +kernel
theorem dX10_rollOf_69 : decode cX10_rollOf 69 = .ok (.ireturn, 1) := by decide +kernel
theorem dX10_rollOf_70 : decode cX10_rollOf 70 = .ok (.aload_n 0, 1) := by decide +kernel
theorem dX10_rollOf_71 : decode cX10_rollOf 71 = .ok (.iload_n 1, 1) := by decide +kernel
theorem dX10_rollOf_72 : decode cX10_rollOf 72 = .ok (.invokevirtual 173, 3) := by decide +kernel
theorem dX10_rollOf_75 : decode cX10_rollOf 75 = .ok (.ireturn, 1) := by decide +kernel
theorem dX10_rollOf_76 : decode cX10_rollOf 76 = .ok (.aload_n 0, 1) := by decide +kernel
theorem dX10_rollOf_77 : decode cX10_rollOf 77 = .ok (.iload_n 1, 1) := by decide +kernel
theorem dX10_rollOf_78 : decode cX10_rollOf 78 = .ok (.invokevirtual 176, 3) := by decide +kernel
theorem dX10_rollOf_81 : decode cX10_rollOf 81 = .ok (.ireturn, 1) := by decide +kernel
theorem dX10_rollOf_82 : decode cX10_rollOf 82 = .ok (.aload_n 0, 1) := by decide +kernel
theorem dX10_rollOf_83 : decode cX10_rollOf 83 = .ok (.iload_n 1, 1) := by decide +kernel
theorem dX10_rollOf_84 : decode cX10_rollOf 84 = .ok (.invokevirtual 179, 3) := by decide +kernel
theorem dX10_rollOf_87 : decode cX10_rollOf 87 = .ok (.aload_n 0, 1) := by decide +kernel
theorem dX10_rollOf_88 : decode cX10_rollOf 88 = .ok (.iload_n 1, 1) := by decide +kernel
theorem dX10_rollOf_89 : decode cX10_rollOf 89 = .ok (.invokevirtual 182, 3) := by decide +kernel
theorem dX10_rollOf_92 : decode cX10_rollOf 92 = .ok (.idiv, 1) := by decide +kernel
theorem dX10_rollOf_93 : decode cX10_rollOf 93 = .ok (.ireturn, 1) := by decide +kernel
theorem dX10_rollOf_94 : decode cX10_rollOf 94 = .ok (.aload_n 0, 1) := by decide +kernel
theorem dX10_rollOf_95 : decode cX10_rollOf 95 = .ok (.iload_n 1, 1) := by decide +kernel
theorem dX10_rollOf_96 : decode cX10_rollOf 96 = .ok (.invokevirtual 179, 3) := by decide +kernel
theorem dX10_rollOf_99 : decode cX10_rollOf 99 = .ok (.ifCond .ne 7, 3) := by decide +kernel
theorem dX10_rollOf_102 : decode cX10_rollOf 102 = .ok (.iconst 1, 1) := by decide +kernel
theorem dX10_rollOf_103 : decode cX10_rollOf 103 = .ok (.goto 17, 3) := by decide +kernel
theorem dX10_rollOf_106 : decode cX10_rollOf 106 = .ok (.aload_n 0, 1) := by decide +kernel
theorem dX10_rollOf_107 : decode cX10_rollOf 107 = .ok (.getfield 19, 3) := by decide +kernel
theorem dX10_rollOf_110 : decode cX10_rollOf 110 = .ok (.iload_n 1, 1) := by decide +kernel
theorem dX10_rollOf_111 : decode cX10_rollOf 111 = .ok (.invokevirtual 170, 3) := by decide +kernel
theorem dX10_rollOf_114 : decode cX10_rollOf 114 = .ok (.aload_n 0, 1) := by decide +kernel
theorem dX10_rollOf_115 : decode cX10_rollOf 115 = .ok (.iload_n 1, 1) := by decide +kernel
theorem dX10_rollOf_116 : decode cX10_rollOf 116 = .ok (.invokevirtual 182, 3) := by decide +kernel
theorem dX10_rollOf_119 : decode cX10_rollOf 119 = .ok (.idiv, 1) := by decide +kernel
theorem dX10_rollOf_120 : decode cX10_rollOf 120 = .ok (.ireturn, 1) := by decide +kernel
theorem dX10_rollOf_121 : decode cX10_rollOf 121 = .ok (.ldc 62, 2) := by decide +kernel
theorem dX10_rollOf_123 : decode cX10_rollOf 123 = .ok (.ireturn, 1) := by decide +kernel
def Lt_rollOf (fl : Nat) (a0 : Int32) (a1 : Int32) (S : gm_M) : Option Int32 :=
  gm_bp1 (Tr_hasRoll 8 a0 S) fun v1 =>
  if v1 = 0 then (
    some ((-1000000001))
  ) else (
    if a1 = 0 then (
      gm_bp1 (Tr_nextTicket 8 a0 S) fun v4 =>
      some (v4)
    ) else (
    if a1 = 1 then (
      gm_bp1 (Tr_ticketsLeft 8 a0 S) fun v6 =>
      some (v6)
    ) else (
    if a1 = 2 then (
      gm_bp1 (Lt_soonFrom fl a0 S) fun v8 =>
      some (v8)
    ) else (
    if a1 = 3 then (
      gm_bp1 (Lt_whoGetsIt fl a0 S) fun v10 =>
      some (v10)
    ) else (
    if a1 = 4 then (
      gm_bp1 (Lt_luckyLeft fl a0 S) fun v12 =>
      gm_bp1 (Lt_partDivisor fl a0 S) fun v13 =>
      if v13 = 0 then none else
      some (v12 / v13)
    ) else (
    if a1 = 5 then (
      gm_bp1 (Lt_luckyLeft fl a0 S) fun v16 =>
      if v16 = 0 then (
        some (1)
      ) else (
        gm_bp1 (Tr_ticketsLeft 8 a0 S) fun v18 =>
        gm_bp1 (Lt_partDivisor fl a0 S) fun v19 =>
        if v19 = 0 then none else
        some (v18 / v19)
      )
    ) else (
      some ((-1000000002))
    ))))))
  )
set_option maxHeartbeats 4000000 in
set_option maxRecDepth 100000 in
theorem Lt_rollOf_c (l : Launch) (cf : gm_C) (ad : Nat → Nat) {fl : Nat}   {a0 : Int32} {a1 : Int32} {S : gm_M} {r : Int32}  (hf : Lt_rollOf fl a0 a1 S = some r) : gm_Met l yX10_rollOf cX10_rollOf 3 (some .int) 4 93 cf ad gm_sC 106 [.ref (ad 0), .int a0, .int a1] S (some (.int r)) S := by
  refine gm_met (by decide +kernel) (Nat.le_of_ble_eq_true rfl) ?_
  intro p e s m args below meth c C hr
  have C : gm_F p s m args meth c cf ad 106 cX10_rollOf 3 RX10 := C
  refine gm_lve (lv' := [(0, .ref (ad 0)), (1, .int a0), (2, .int a1)]) rfl ?_
  unfold Lt_rollOf at hf
  refine gm_aload_n C dX10_rollOf_0 rfl 0 rfl ?_
  refine gm_getr (j := 8) (u := 8) C (Nat.le_of_ble_eq_true rfl) rfl kc_10 (k := 1) rfl (by decide) rfl rfl wl_329 dX10_rollOf_1 ?_
  refine gm_iload_n C dX10_rollOf_4 rfl 1 rfl ?_
  obtain ⟨v1, ev1, hf⟩ := gm_bp1_s hf
  refine gm_callVi (As := [.int a0]) C (Tr_hasRoll_c l cf ad gm_tr_8 ev1) (Nat.le_of_ble_eq_true rfl) rfl kc_9 wy_Tr_hasRoll rfl wl_630 rfl ⟨(Nat.le_of_ble_eq_true rfl), (Nat.le_of_ble_eq_true rfl)⟩ rfl (Nat.le_of_ble_eq_true rfl) dX10_rollOf_5 ?_
  refine gm_if_ne C 14 dX10_rollOf_8 (by decide) (fun c2 => ?_) (fun c2 => ?_)
  · have hf := gm_if _ c2 hf
    refine gm_iload_n C dX10_rollOf_14 rfl 2 rfl ?_
    by_cases c3 : a1 = 0
    · have hf := gm_it _ c3 hf
      refine gm_tableIn C 52 dX10_rollOf_15 (by rw [c3]; decide) (by rw [c3]; decide) (by rw [c3]; rfl) (by decide) ?_
      refine gm_aload_n C dX10_rollOf_52 rfl 0 rfl ?_
      refine gm_getr (j := 8) (u := 8) C (Nat.le_of_ble_eq_true rfl) rfl kc_10 (k := 1) rfl (by decide) rfl rfl wl_329 dX10_rollOf_53 ?_
      refine gm_iload_n C dX10_rollOf_56 rfl 1 rfl ?_
      obtain ⟨v4, ev4, hf⟩ := gm_bp1_s hf
      refine gm_callVi (As := [.int a0]) C (Tr_nextTicket_c l cf ad gm_tr_8 ev4) (Nat.le_of_ble_eq_true rfl) rfl kc_9 wy_Tr_nextTicket rfl wl_571 rfl ⟨(Nat.le_of_ble_eq_true rfl), (Nat.le_of_ble_eq_true rfl)⟩ rfl (Nat.le_of_ble_eq_true rfl) dX10_rollOf_57 ?_
      exact gm_iretK C hr rfl dX10_rollOf_60 hf
    · have hf := gm_if _ c3 hf
      by_cases c5 : a1 = 1
      · have hf := gm_it _ c5 hf
        refine gm_tableIn C 61 dX10_rollOf_15 (by rw [c5]; decide) (by rw [c5]; decide) (by rw [c5]; rfl) (by decide) ?_
        refine gm_aload_n C dX10_rollOf_61 rfl 0 rfl ?_
        refine gm_getr (j := 8) (u := 8) C (Nat.le_of_ble_eq_true rfl) rfl kc_10 (k := 1) rfl (by decide) rfl rfl wl_329 dX10_rollOf_62 ?_
        refine gm_iload_n C dX10_rollOf_65 rfl 1 rfl ?_
        obtain ⟨v6, ev6, hf⟩ := gm_bp1_s hf
        refine gm_callVi (As := [.int a0]) C (Tr_ticketsLeft_c l cf ad gm_tr_8 ev6) (Nat.le_of_ble_eq_true rfl) rfl kc_9 wy_Tr_ticketsLeft rfl wl_567 rfl ⟨(Nat.le_of_ble_eq_true rfl), (Nat.le_of_ble_eq_true rfl)⟩ rfl (Nat.le_of_ble_eq_true rfl) dX10_rollOf_66 ?_
        exact gm_iretK C hr rfl dX10_rollOf_69 hf
      · have hf := gm_if _ c5 hf
        by_cases c7 : a1 = 2
        · have hf := gm_it _ c7 hf
          refine gm_tableIn C 70 dX10_rollOf_15 (by rw [c7]; decide) (by rw [c7]; decide) (by rw [c7]; rfl) (by decide) ?_
          refine gm_aload_n C dX10_rollOf_70 rfl 0 rfl ?_
          refine gm_iload_n C dX10_rollOf_71 rfl 1 rfl ?_
          obtain ⟨v8, ev8, hf⟩ := gm_bp1_s hf
          refine gm_callVi (As := [.int a0]) C (Lt_soonFrom_c l cf ad ev8) (Nat.le_of_ble_eq_true rfl) rfl kc_10 wy_Lt_soonFrom rfl wl_563 rfl ⟨(Nat.le_of_ble_eq_true rfl), (Nat.le_of_ble_eq_true rfl)⟩ rfl (Nat.le_of_ble_eq_true rfl) dX10_rollOf_72 ?_
          exact gm_iretK C hr rfl dX10_rollOf_75 hf
        · have hf := gm_if _ c7 hf
          by_cases c9 : a1 = 3
          · have hf := gm_it _ c9 hf
            refine gm_tableIn C 76 dX10_rollOf_15 (by rw [c9]; decide) (by rw [c9]; decide) (by rw [c9]; rfl) (by decide) ?_
            refine gm_aload_n C dX10_rollOf_76 rfl 0 rfl ?_
            refine gm_iload_n C dX10_rollOf_77 rfl 1 rfl ?_
            obtain ⟨v10, ev10, hf⟩ := gm_bp1_s hf
            refine gm_callVi (As := [.int a0]) C (Lt_whoGetsIt_c l cf ad ev10) (Nat.le_of_ble_eq_true rfl) rfl kc_10 wy_Lt_whoGetsIt rfl wl_634 rfl ⟨(Nat.le_of_ble_eq_true rfl), (Nat.le_of_ble_eq_true rfl)⟩ rfl (Nat.le_of_ble_eq_true rfl) dX10_rollOf_78 ?_
            exact gm_iretK C hr rfl dX10_rollOf_81 hf
          · have hf := gm_if _ c9 hf
            by_cases c11 : a1 = 4
            · have hf := gm_it _ c11 hf
              refine gm_tableIn C 82 dX10_rollOf_15 (by rw [c11]; decide) (by rw [c11]; decide) (by rw [c11]; rfl) (by decide) ?_
              refine gm_aload_n C dX10_rollOf_82 rfl 0 rfl ?_
              refine gm_iload_n C dX10_rollOf_83 rfl 1 rfl ?_
              obtain ⟨v12, ev12, hf⟩ := gm_bp1_s hf
              refine gm_callVi (As := [.int a0]) C (Lt_luckyLeft_c l cf ad ev12) (Nat.le_of_ble_eq_true rfl) rfl kc_10 wy_Lt_luckyLeft rfl wl_638 rfl ⟨(Nat.le_of_ble_eq_true rfl), (Nat.le_of_ble_eq_true rfl)⟩ rfl (Nat.le_of_ble_eq_true rfl) dX10_rollOf_84 ?_
              refine gm_aload_n C dX10_rollOf_87 rfl 0 rfl ?_
              refine gm_iload_n C dX10_rollOf_88 rfl 1 rfl ?_
              obtain ⟨v13, ev13, hf⟩ := gm_bp1_s hf
              refine gm_callVi (As := [.int a0]) C (Lt_partDivisor_c l cf ad ev13) (Nat.le_of_ble_eq_true rfl) rfl kc_10 wy_Lt_partDivisor rfl wl_642 rfl ⟨(Nat.le_of_ble_eq_true rfl), (Nat.le_of_ble_eq_true rfl)⟩ rfl (Nat.le_of_ble_eq_true rfl) dX10_rollOf_89 ?_
              obtain ⟨h14, hf⟩ := gm_iz _ hf
              refine gm_idiv C dX10_rollOf_92 h14 ?_
              exact gm_iretK C hr rfl dX10_rollOf_93 hf
            · have hf := gm_if _ c11 hf
              by_cases c15 : a1 = 5
              · have hf := gm_it _ c15 hf
                refine gm_tableIn C 94 dX10_rollOf_15 (by rw [c15]; decide) (by rw [c15]; decide) (by rw [c15]; rfl) (by decide) ?_
                refine gm_aload_n C dX10_rollOf_94 rfl 0 rfl ?_
                refine gm_iload_n C dX10_rollOf_95 rfl 1 rfl ?_
                obtain ⟨v16, ev16, hf⟩ := gm_bp1_s hf
                refine gm_callVi (As := [.int a0]) C (Lt_luckyLeft_c l cf ad ev16) (Nat.le_of_ble_eq_true rfl) rfl kc_10 wy_Lt_luckyLeft rfl wl_638 rfl ⟨(Nat.le_of_ble_eq_true rfl), (Nat.le_of_ble_eq_true rfl)⟩ rfl (Nat.le_of_ble_eq_true rfl) dX10_rollOf_96 ?_
                refine gm_if_ne C 106 dX10_rollOf_99 (by decide) (fun c17 => ?_) (fun c17 => ?_)
                · have hf := gm_if _ c17 hf
                  refine gm_aload_n C dX10_rollOf_106 rfl 0 rfl ?_
                  refine gm_getr (j := 8) (u := 8) C (Nat.le_of_ble_eq_true rfl) rfl kc_10 (k := 1) rfl (by decide) rfl rfl wl_329 dX10_rollOf_107 ?_
                  refine gm_iload_n C dX10_rollOf_110 rfl 1 rfl ?_
                  obtain ⟨v18, ev18, hf⟩ := gm_bp1_s hf
                  refine gm_callVi (As := [.int a0]) C (Tr_ticketsLeft_c l cf ad gm_tr_8 ev18) (Nat.le_of_ble_eq_true rfl) rfl kc_9 wy_Tr_ticketsLeft rfl wl_567 rfl ⟨(Nat.le_of_ble_eq_true rfl), (Nat.le_of_ble_eq_true rfl)⟩ rfl (Nat.le_of_ble_eq_true rfl) dX10_rollOf_111 ?_
                  refine gm_aload_n C dX10_rollOf_114 rfl 0 rfl ?_
                  refine gm_iload_n C dX10_rollOf_115 rfl 1 rfl ?_
                  obtain ⟨v19, ev19, hf⟩ := gm_bp1_s hf
                  refine gm_callVi (As := [.int a0]) C (Lt_partDivisor_c l cf ad ev19) (Nat.le_of_ble_eq_true rfl) rfl kc_10 wy_Lt_partDivisor rfl wl_642 rfl ⟨(Nat.le_of_ble_eq_true rfl), (Nat.le_of_ble_eq_true rfl)⟩ rfl (Nat.le_of_ble_eq_true rfl) dX10_rollOf_116 ?_
                  obtain ⟨h20, hf⟩ := gm_iz _ hf
                  refine gm_idiv C dX10_rollOf_119 h20 ?_
                  exact gm_iretK C hr rfl dX10_rollOf_120 hf
                · have hf := gm_it _ c17 hf
                  refine gm_iconst (v := 1) C dX10_rollOf_102 (by decide) ?_
                  refine gm_goto C 120 dX10_rollOf_103 (by decide) ?_
                  exact gm_iretK C hr rfl dX10_rollOf_120 hf
              · have hf := gm_if _ c15 hf
                have nc3 : (a1).toInt ≠ 0 := gm_nt c3
                have nc5 : (a1).toInt ≠ 1 := gm_nt c5
                have nc7 : (a1).toInt ≠ 2 := gm_nt c7
                have nc9 : (a1).toInt ≠ 3 := gm_nt c9
                have nc11 : (a1).toInt ≠ 4 := gm_nt c11
                have nc15 : (a1).toInt ≠ 5 := gm_nt c15
                refine gm_tableOut C 121 dX10_rollOf_15 (by omega) (by decide) ?_
                refine gm_ldc (v := (-1000000002)) C wl_360 dX10_rollOf_121 ?_
                exact gm_iretK C hr rfl dX10_rollOf_123 hf
  · have hf := gm_it _ c2 hf
    refine gm_ldc (v := (-1000000001)) C wl_617 dX10_rollOf_11 ?_
    exact gm_iretK C hr rfl dX10_rollOf_13 hf
theorem dX9_hasRider_0 : decode cX9_hasRider 0 = .ok (.iload_n 1, 1) := by decide +kernel
theorem dX9_hasRider_1 : decode cX9_hasRider 1 = .ok (.ifCond .lt 15, 3) := by decide +kernel
theorem dX9_hasRider_4 : decode cX9_hasRider 4 = .ok (.iload_n 1, 1) := by decide +kernel
theorem dX9_hasRider_5 : decode cX9_hasRider 5 = .ok (.aload_n 0, 1) := by decide +kernel
theorem dX9_hasRider_6 : decode cX9_hasRider 6 = .ok (.getfield 37, 3) := by decide +kernel
theorem dX9_hasRider_9 : decode cX9_hasRider 9 = .ok (.if_icmp .ge 7, 3) := by decide +kernel
theorem dX9_hasRider_12 : decode cX9_hasRider 12 = .ok (.iconst 1, 1) := by decide +kernel
theorem dX9_hasRider_13 : decode cX9_hasRider 13 = .ok (.goto 4, 3) := by decide +kernel
theorem dX9_hasRider_16 : decode cX9_hasRider 16 = .ok (.iconst 0, 1) := by decide +kernel
theorem dX9_hasRider_17 : decode cX9_hasRider 17 = .ok (.ireturn, 1) := by decide +kernel
def Tr_hasRider (t : Nat) (a0 : Int32) (S : gm_M) : Option Int32 :=
  if a0 < 0 then (
    some (0)
  ) else (
    if S.1 t 8 ≤ a0 then (
      some (0)
    ) else (
      some (1)
    )
  )
set_option maxHeartbeats 4000000 in
set_option maxRecDepth 100000 in
theorem Tr_hasRider_c (l : Launch) (cf : gm_C) (ad : Nat → Nat)  {t : Nat} (ht : gm_isTr t) {a0 : Int32} {S : gm_M} {r : Int32}  (hf : Tr_hasRider t a0 S = some r) : gm_Met l yX9_hasRider cX9_hasRider 2 (some .boolean) 0 0 cf ad gm_sC 106 [.ref (ad t), .int a0] S (some (.int r)) S := by
  refine gm_met (by decide +kernel) (Nat.le_of_ble_eq_true rfl) ?_
  intro p e s m args below meth c C hr
  have C : gm_F p s m args meth c cf ad 106 cX9_hasRider 2 RX9 := C
  refine gm_lve (lv' := [(0, .ref (ad t)), (1, .int a0)]) rfl ?_
  unfold Tr_hasRider at hf
  refine gm_iload_n C dX9_hasRider_0 rfl 1 rfl ?_
  refine gm_if_lt C 16 dX9_hasRider_1 (by decide) (fun c1 => ?_) (fun c1 => ?_)
  · have hf := gm_it _ c1 hf
    refine gm_iconst (v := 0) C dX9_hasRider_16 (by decide) ?_
    exact gm_iretK C hr rfl dX9_hasRider_17 hf
  · have hf := gm_if _ c1 hf
    refine gm_iload_n C dX9_hasRider_4 rfl 1 rfl ?_
    refine gm_aload_n C dX9_hasRider_5 rfl 0 rfl ?_
    refine gm_geti C (gm_tr_l0 ht) (gm_tr_k0 ht) kc_9 (k := 8) rfl (by decide) rfl wl_126 dX9_hasRider_6 ?_
    refine gm_icmp_ge C 16 dX9_hasRider_9 (by decide) (fun c2 => ?_) (fun c2 => ?_)
    · have hf := gm_it _ c2 hf
      refine gm_iconst (v := 0) C dX9_hasRider_16 (by decide) ?_
      exact gm_iretK C hr rfl dX9_hasRider_17 hf
    · have hf := gm_if _ c2 hf
      refine gm_iconst (v := 1) C dX9_hasRider_12 (by decide) ?_
      refine gm_goto C 17 dX9_hasRider_13 (by decide) ?_
      exact gm_iretK C hr rfl dX9_hasRider_17 hf
theorem dX10_rider_0 : decode cX10_rider 0 = .ok (.aload_n 0, 1) := by decide +kernel
theorem dX10_rider_1 : decode cX10_rider 1 = .ok (.getfield 19, 3) := by decide +kernel
theorem dX10_rider_4 : decode cX10_rider 4 = .ok (.iload_n 1, 1) := by decide +kernel
theorem dX10_rider_5 : decode cX10_rider 5 = .ok (.invokevirtual 185, 3) := by decide +kernel
theorem dX10_rider_8 : decode cX10_rider 8 = .ok (.ifCond .ne 6, 3) := by decide +kernel
theorem dX10_rider_11 : decode cX10_rider 11 = .ok (.ldc 143, 2) := by decide +kernel
theorem dX10_rider_13 : decode cX10_rider 13 = .ok (.ireturn, 1) := by decide +kernel
theorem dX10_rider_14 : decode cX10_rider 14 = .ok (.iload_n 2, 1) := by decide +kernel
theorem dX10_rider_15 : decode cX10_rider 15 = .ok (.ifCond .lt 8, 3) := by decide +kernel
theorem dX10_rider_18 : decode cX10_rider 18 = .ok (.iload_n 2, 1) := by decide +kernel
theorem dX10_rider_19 : decode cX10_rider 19 = .ok (.iconst 5, 1) := by decide +kernel
theorem dX10_rider_20 : decode cX10_rider 20 = .ok (.if_icmp .lt 8, 3) := by decide +kernel
theorem dX10_rider_23 : decode cX10_rider 23 = .ok (.ldc 62, 2) := by decide +kernel
theorem dX10_rider_25 : decode cX10_rider 25 = .ok (.goto 12, 3) := by decide +kernel
theorem dX10_rider_28 : decode cX10_rider 28 = .ok (.aload_n 0, 1) := by decide +kernel
theorem dX10_rider_29 : decode cX10_rider 29 = .ok (.getfield 19, 3) := by decide +kernel
theorem dX10_rider_32 : decode cX10_rider 32 = .ok (.iload_n 1, 1) := by decide +kernel
theorem dX10_rider_33 : decode cX10_rider 33 = .ok (.iload_n 2, 1) := by decide +kernel
theorem dX10_rider_34 : decode cX10_rider 34 = .ok (.invokevirtual 188, 3) := by decide +kernel
theorem dX10_rider_37 : decode cX10_rider 37 = .ok (.ireturn, 1) := by decide +kernel
def Lt_rider (a0 : Int32) (a1 : Int32) (S : gm_M) : Option Int32 :=
  gm_bp1 (Tr_hasRider 8 a0 S) fun v1 =>
  if v1 = 0 then (
    some ((-1000000001))
  ) else (
    if a1 < 0 then (
      some ((-1000000002))
    ) else (
      if a1 < 5 then (
        gm_bp1 (Tr_riderCell 8 a0 a1 S) fun v5 =>
        some (v5)
      ) else (
        some ((-1000000002))
      )
    )
  )
set_option maxHeartbeats 4000000 in
set_option maxRecDepth 100000 in
theorem Lt_rider_c (l : Launch) (cf : gm_C) (ad : Nat → Nat)    {a0 : Int32} {a1 : Int32} {S : gm_M} {r : Int32}  (hf : Lt_rider a0 a1 S = some r) : gm_Met l yX10_rider cX10_rider 3 (some .int) 1 22 cf ad gm_sC 106 [.ref (ad 0), .int a0, .int a1] S (some (.int r)) S := by
  refine gm_met (by decide +kernel) (Nat.le_of_ble_eq_true rfl) ?_
  intro p e s m args below meth c C hr
  have C : gm_F p s m args meth c cf ad 106 cX10_rider 3 RX10 := C
  refine gm_lve (lv' := [(0, .ref (ad 0)), (1, .int a0), (2, .int a1)]) rfl ?_
  unfold Lt_rider at hf
  refine gm_aload_n C dX10_rider_0 rfl 0 rfl ?_
  refine gm_getr (j := 8) (u := 8) C (Nat.le_of_ble_eq_true rfl) rfl kc_10 (k := 1) rfl (by decide) rfl rfl wl_329 dX10_rider_1 ?_
  refine gm_iload_n C dX10_rider_4 rfl 1 rfl ?_
  obtain ⟨v1, ev1, hf⟩ := gm_bp1_s hf
  refine gm_callVi (As := [.int a0]) C (Tr_hasRider_c l cf ad gm_tr_8 ev1) (Nat.le_of_ble_eq_true rfl) rfl kc_9 wy_Tr_hasRider rfl wl_651 rfl ⟨(Nat.le_of_ble_eq_true rfl), (Nat.le_of_ble_eq_true rfl)⟩ rfl (Nat.le_of_ble_eq_true rfl) dX10_rider_5 ?_
  refine gm_if_ne C 14 dX10_rider_8 (by decide) (fun c2 => ?_) (fun c2 => ?_)
  · have hf := gm_if _ c2 hf
    refine gm_iload_n C dX10_rider_14 rfl 2 rfl ?_
    refine gm_if_lt C 23 dX10_rider_15 (by decide) (fun c3 => ?_) (fun c3 => ?_)
    · have hf := gm_it _ c3 hf
      refine gm_ldc (v := (-1000000002)) C wl_360 dX10_rider_23 ?_
      refine gm_goto C 37 dX10_rider_25 (by decide) ?_
      exact gm_iretK C hr rfl dX10_rider_37 hf
    · have hf := gm_if _ c3 hf
      refine gm_iload_n C dX10_rider_18 rfl 2 rfl ?_
      refine gm_iconst (v := 5) C dX10_rider_19 (by decide) ?_
      refine gm_icmp_lt C 28 dX10_rider_20 (by decide) (fun c4 => ?_) (fun c4 => ?_)
      · have hf := gm_it _ c4 hf
        refine gm_aload_n C dX10_rider_28 rfl 0 rfl ?_
        refine gm_getr (j := 8) (u := 8) C (Nat.le_of_ble_eq_true rfl) rfl kc_10 (k := 1) rfl (by decide) rfl rfl wl_329 dX10_rider_29 ?_
        refine gm_iload_n C dX10_rider_32 rfl 1 rfl ?_
        refine gm_iload_n C dX10_rider_33 rfl 2 rfl ?_
        obtain ⟨v5, ev5, hf⟩ := gm_bp1_s hf
        refine gm_callVi (As := [.int a0, .int a1]) C (Tr_riderCell_c l cf ad gm_tr_8 ev5) (Nat.le_of_ble_eq_true rfl) rfl kc_9 wy_Tr_riderCell rfl wl_655 rfl ⟨(Nat.le_of_ble_eq_true rfl), (Nat.le_of_ble_eq_true rfl)⟩ rfl (Nat.le_of_ble_eq_true rfl) dX10_rider_34 ?_
        exact gm_iretK C hr rfl dX10_rider_37 hf
      · have hf := gm_if _ c4 hf
        refine gm_ldc (v := (-1000000002)) C wl_360 dX10_rider_23 ?_
        refine gm_goto C 37 dX10_rider_25 (by decide) ?_
        exact gm_iretK C hr rfl dX10_rider_37 hf
  · have hf := gm_it _ c2 hf
    refine gm_ldc (v := (-1000000001)) C wl_617 dX10_rider_11 ?_
    exact gm_iretK C hr rfl dX10_rider_13 hf
theorem dX9_hasNumber_0 : decode cX9_hasNumber 0 = .ok (.iload_n 1, 1) := by decide +kernel
theorem dX9_hasNumber_1 : decode cX9_hasNumber 1 = .ok (.ifCond .lt 15, 3) := by decide +kernel
theorem dX9_hasNumber_4 : decode cX9_hasNumber 4 = .ok (.iload_n 1, 1) := by decide +kernel
theorem dX9_hasNumber_5 : decode cX9_hasNumber 5 = .ok (.aload_n 0, 1) := by decide +kernel
theorem dX9_hasNumber_6 : decode cX9_hasNumber 6 = .ok (.invokevirtual 50, 3) := by decide +kernel
theorem dX9_hasNumber_9 : decode cX9_hasNumber 9 = .ok (.if_icmp .ge 7, 3) := by decide +kernel
theorem dX9_hasNumber_12 : decode cX9_hasNumber 12 = .ok (.iconst 1, 1) := by decide +kernel
theorem dX9_hasNumber_13 : decode cX9_hasNumber 13 = .ok (.goto 4, 3) := by decide +kernel
theorem dX9_hasNumber_16 : decode cX9_hasNumber 16 = .ok (.iconst 0, 1) := by decide +kernel
theorem dX9_hasNumber_17 : decode cX9_hasNumber 17 = .ok (.ireturn, 1) := by decide +kernel
def Tr_hasNumber (fl : Nat) (t : Nat) (a0 : Int32) (S : gm_M) : Option Int32 :=
  if a0 < 0 then (
    some (0)
  ) else (
    gm_bp1 (Tr_numbers fl t S) fun v2 =>
    if v2 ≤ a0 then (
      some (0)
    ) else (
      some (1)
    )
  )
set_option maxHeartbeats 4000000 in
set_option maxRecDepth 100000 in
theorem Tr_hasNumber_c (l : Launch) (cf : gm_C) (ad : Nat → Nat) {fl : Nat} {t : Nat} (ht : gm_isTr t) {a0 : Int32} {S : gm_M} {r : Int32}  (hf : Tr_hasNumber fl t a0 S = some r) : gm_Met l yX9_hasNumber cX9_hasNumber 2 (some .boolean) 1 22 cf ad gm_sC 106 [.ref (ad t), .int a0] S (some (.int r)) S := by
  refine gm_met (by decide +kernel) (Nat.le_of_ble_eq_true rfl) ?_
  intro p e s m args below meth c C hr
  have C : gm_F p s m args meth c cf ad 106 cX9_hasNumber 2 RX9 := C
  refine gm_lve (lv' := [(0, .ref (ad t)), (1, .int a0)]) rfl ?_
  unfold Tr_hasNumber at hf
  refine gm_iload_n C dX9_hasNumber_0 rfl 1 rfl ?_
  refine gm_if_lt C 16 dX9_hasNumber_1 (by decide) (fun c1 => ?_) (fun c1 => ?_)
  · have hf := gm_it _ c1 hf
    refine gm_iconst (v := 0) C dX9_hasNumber_16 (by decide) ?_
    exact gm_iretK C hr rfl dX9_hasNumber_17 hf
  · have hf := gm_if _ c1 hf
    refine gm_iload_n C dX9_hasNumber_4 rfl 1 rfl ?_
    refine gm_aload_n C dX9_hasNumber_5 rfl 0 rfl ?_
    obtain ⟨v2, ev2, hf⟩ := gm_bp1_s hf
    refine gm_callVi (As := []) C (Tr_numbers_c l cf ad ht ev2) (gm_tr_l0 ht) (gm_tr_k0 ht) kc_9 wy_Tr_numbers rfl wl_583 rfl ⟨(Nat.le_of_ble_eq_true rfl), (Nat.le_of_ble_eq_true rfl)⟩ rfl (Nat.le_of_ble_eq_true rfl) dX9_hasNumber_6 ?_
    refine gm_icmp_ge C 16 dX9_hasNumber_9 (by decide) (fun c3 => ?_) (fun c3 => ?_)
    · have hf := gm_it _ c3 hf
      refine gm_iconst (v := 0) C dX9_hasNumber_16 (by decide) ?_
      exact gm_iretK C hr rfl dX9_hasNumber_17 hf
    · have hf := gm_if _ c3 hf
      refine gm_iconst (v := 1) C dX9_hasNumber_12 (by decide) ?_
      refine gm_goto C 17 dX9_hasNumber_13 (by decide) ?_
      exact gm_iretK C hr rfl dX9_hasNumber_17 hf
theorem dX3_rulesSayingYes_0 : decode cX3_rulesSayingYes 0 = .ok (.iconst 0, 1) := by decide +kernel
theorem dX3_rulesSayingYes_1 : decode cX3_rulesSayingYes 1 = .ok (.istore_n 2, 1) := by decide +kernel
theorem dX3_rulesSayingYes_2 : decode cX3_rulesSayingYes 2 = .ok (.iconst 0, 1) := by decide +kernel
theorem dX3_rulesSayingYes_3 : decode cX3_rulesSayingYes 3 = .ok (.istore_n 3, 1) := by decide +kernel
theorem dX3_rulesSayingYes_4 : decode cX3_rulesSayingYes 4 = .ok (.iload_n 3, 1) := by decide +kernel
theorem dX3_rulesSayingYes_5 : decode cX3_rulesSayingYes 5 = .ok (.aload_n 0, 1) := by decide +kernel
theorem dX3_rulesSayingYes_6 : decode cX3_rulesSayingYes 6 = .ok (.getfield 56, 3) := by decide +kernel
theorem dX3_rulesSayingYes_9 : decode cX3_rulesSayingYes 9 = .ok (.if_icmp .ge 38, 3) := by decide +kernel
theorem dX3_rulesSayingYes_12 : decode cX3_rulesSayingYes 12 = .ok (.aload_n 0, 1) := by decide +kernel
theorem dX3_rulesSayingYes_13 : decode cX3_rulesSayingYes 13 = .ok (.getfield 11, 3) := by decide +kernel
theorem dX3_rulesSayingYes_16 : decode cX3_rulesSayingYes 16 = .ok (.iload_n 3, 1) := by decide +kernel
theorem dX3_rulesSayingYes_17 : decode cX3_rulesSayingYes 17 = .ok (.aaload, 1) := by decide +kernel
theorem dX3_rulesSayingYes_18 : decode cX3_rulesSayingYes 18 = .ok (.iload_n 1, 1) := by decide +kernel
theorem dX3_rulesSayingYes_19 : decode cX3_rulesSayingYes 19 = .ok (.bipush 6, 2) := by decide +kernel
theorem dX3_rulesSayingYes_21 : decode cX3_rulesSayingYes 21 = .ok (.ishr, 1) := by decide +kernel
theorem dX3_rulesSayingYes_22 : decode cX3_rulesSayingYes 22 = .ok (.laload, 1) := by decide +kernel
theorem dX3_rulesSayingYes_23 : decode cX3_rulesSayingYes 23 = .ok (.iload_n 1, 1) := by decide +kernel
theorem dX3_rulesSayingYes_24 : decode cX3_rulesSayingYes 24 = .ok (.bipush 63, 2) := by decide +kernel
theorem dX3_rulesSayingYes_26 : decode cX3_rulesSayingYes 26 = .ok (.iand, 1) := by decide +kernel
theorem dX3_rulesSayingYes_27 : decode cX3_rulesSayingYes 27 = .ok (.lshr, 1) := by decide +kernel
theorem dX3_rulesSayingYes_28 : decode cX3_rulesSayingYes 28 = .ok (.lconst 1, 1) := by decide +kernel
theorem dX3_rulesSayingYes_29 : decode cX3_rulesSayingYes 29 = .ok (.land, 1) := by decide +kernel
theorem dX3_rulesSayingYes_30 : decode cX3_rulesSayingYes 30 = .ok (.lconst 0, 1) := by decide +kernel
theorem dX3_rulesSayingYes_31 : decode cX3_rulesSayingYes 31 = .ok (.lcmp, 1) := by decide +kernel
theorem dX3_rulesSayingYes_32 : decode cX3_rulesSayingYes 32 = .ok (.ifCond .eq 9, 3) := by decide +kernel
theorem dX3_rulesSayingYes_35 : decode cX3_rulesSayingYes 35 = .ok (.iload_n 2, 1) := by decide +kernel
theorem dX3_rulesSayingYes_36 : decode cX3_rulesSayingYes 36 = .ok (.iconst 1, 1) := by decide +kernel
theorem dX3_rulesSayingYes_37 : decode cX3_rulesSayingYes 37 = .ok (.iload_n 3, 1) := by decide +kernel
theorem dX3_rulesSayingYes_38 : decode cX3_rulesSayingYes 38 = .ok (.ishl, 1) := by decide +kernel
theorem dX3_rulesSayingYes_39 : decode cX3_rulesSayingYes 39 = .ok (.ior, 1) := by decide +kernel
theorem dX3_rulesSayingYes_40 : decode cX3_rulesSayingYes 40 = .ok (.istore_n 2, 1) := by decide +kernel
theorem dX3_rulesSayingYes_41 : decode cX3_rulesSayingYes 41 = .ok (.iinc 3 1, 3) := by decide +kernel
theorem dX3_rulesSayingYes_44 : decode cX3_rulesSayingYes 44 = .ok (.goto (-40), 3) := by decide +kernel
theorem dX3_rulesSayingYes_47 : decode cX3_rulesSayingYes 47 = .ok (.iload_n 2, 1) := by decide +kernel
theorem dX3_rulesSayingYes_48 : decode cX3_rulesSayingYes 48 = .ok (.ireturn, 1) := by decide +kernel
def Tb_rulesSayingYes_L4_b (a0 : Int32) (S : gm_M) (rec : Int32 → Int32 → Option (Int32)) (y1 : Int32) (y2 : Int32) : Option (Int32) :=
  if S.1 12 7 ≤ y2 then (
    some (y1)
  ) else (
    gm_ck (y2) 4 <|
    gm_ck (a0 >>> (6 &&& 31)) 157 <|
    gm_bp1 (show Option (Int32) from
      if lg_cmp (((S.2 (14 + 1 * y2.toNatClampNeg) (a0 >>> (6 &&& 31)).toNatClampNeg) >>> ((a0 &&& 63 : Int32).toInt64 &&& 63)) &&& 1) 0 = 0 then (
        some (y1)
      ) else (
        gm_lt (α := Int32) (y1 ||| (1 <<< (y2 &&& 31))) fun x11 =>
        some (x11)
      )
    ) fun x8 =>
    gm_lt (α := Int32) (y2 + 1) fun x9 =>
    rec x8 x9
  )
def Tb_rulesSayingYes_L4 (a0 : Int32) (S : gm_M) : Nat → Int32 → Int32 → Option (Int32)
  | 0 => fun _ _ => none
  | n + 1 => Tb_rulesSayingYes_L4_b a0 S (Tb_rulesSayingYes_L4 a0 S n)
def Tb_rulesSayingYes (fl : Nat) (a0 : Int32) (S : gm_M) : Option Int32 :=
  gm_bp1 (Tb_rulesSayingYes_L4 a0 S fl 0 0) fun z3 =>
  some (z3)
set_option maxHeartbeats 4000000 in
set_option maxRecDepth 100000 in
theorem Tb_rulesSayingYes_c (l : Launch) (cf : gm_C) (ad : Nat → Nat) {fl : Nat}   {a0 : Int32} {S : gm_M} {r : Int32}  (hf : Tb_rulesSayingYes fl a0 S = some r) : gm_Met l yX3_rulesSayingYes cX3_rulesSayingYes 4 (some .int) 0 0 cf ad gm_sC 106 [.ref (ad 12), .int a0] S (some (.int r)) S := by
  refine gm_met (by decide +kernel) (Nat.le_of_ble_eq_true rfl) ?_
  intro p e s m args below meth c C hr
  have C : gm_F p s m args meth c cf ad 106 cX3_rulesSayingYes 4 RX3 := C
  refine gm_lve (lv' := [(0, .ref (ad 12)), (1, .int a0)]) rfl ?_
  unfold Tb_rulesSayingYes at hf
  refine gm_iconst (v := 0) C dX3_rulesSayingYes_0 (by decide) ?_
  refine gm_istore_n (lv' := [(2, .int 0), (0, .ref (ad 12)), (1, .int a0)]) C dX3_rulesSayingYes_1 rfl (by decide) rfl ?_
  refine gm_iconst (v := 0) C dX3_rulesSayingYes_2 (by decide) ?_
  refine gm_istore_n (lv' := [(3, .int 0), (2, .int 0), (0, .ref (ad 12)), (1, .int a0)]) C dX3_rulesSayingYes_3 rfl (by decide) rfl ?_
  have L4 : ∀ (n : Nat) (y1 : Int32) (y2 : Int32) (z3 : Int32), Tb_rulesSayingYes_L4 a0 S n y1 y2 = some (z3) → gm_G p l e { frames := 0, cells := 0, slots := 0, locals := 0 } s m args below meth c (MQ below (gm_Q cf ad gm_sC 106 (some (.int r)) S) args s 0 0 (gm_A ad 106)) cf ad gm_sC 106 4 S 47 [(2, .int z3)] [] → gm_G p l e { frames := 0, cells := 0, slots := 0, locals := 0 } s m args below meth c (MQ below (gm_Q cf ad gm_sC 106 (some (.int r)) S) args s 0 0 (gm_A ad 106)) cf ad gm_sC 106 4 S 4 [(0, .ref (ad 12)), (1, .int a0), (2, .int y1), (3, .int y2)] [] := by
    intro n
    induction n with
    | zero => intro y1 y2 z3 hf K; cases (show (none : Option _) = some _ from hf)
    | succ n ih =>
      intro y1 y2 z3 hf K
      have hf : Tb_rulesSayingYes_L4_b a0 S (Tb_rulesSayingYes_L4 a0 S n) y1 y2 = some (z3) := hf
      unfold Tb_rulesSayingYes_L4_b at hf
      refine gm_iload_n C dX3_rulesSayingYes_4 rfl 3 rfl ?_
      refine gm_aload_n C dX3_rulesSayingYes_5 rfl 0 rfl ?_
      refine gm_geti C (Nat.le_of_ble_eq_true rfl) rfl kc_3 (k := 7) rfl (by decide) rfl wl_210 dX3_rulesSayingYes_6 ?_
      refine gm_icmp_ge C 47 dX3_rulesSayingYes_9 (by decide) (fun c4 => ?_) (fun c4 => ?_)
      · have hf := gm_it _ c4 hf
        cases hf
        exact gm_lvp [2] rfl K
      · have hf := gm_if _ c4 hf
        refine gm_aload_n C dX3_rulesSayingYes_12 rfl 0 rfl ?_
        refine gm_getr (j := 1) (u := 13) C (Nat.le_of_ble_eq_true rfl) rfl kc_3 (k := 0) rfl (by decide) rfl rfl wl_203 dX3_rulesSayingYes_13 ?_
        refine gm_iload_n C dX3_rulesSayingYes_16 rfl 3 rfl ?_
        obtain ⟨h5, hf⟩ := gm_ck_s hf
        refine gm_aald (k := 4) C (Nat.le_of_ble_eq_true rfl) rfl (by decide) rfl rfl h5 dX3_rulesSayingYes_17 ?_
        have h6 := gm_of_rw h5
        refine gm_iload_n C dX3_rulesSayingYes_18 rfl 1 rfl ?_
        refine gm_bipush (v := 6) C dX3_rulesSayingYes_19 (by decide) ?_
        refine gm_ishr C dX3_rulesSayingYes_21 ?_
        obtain ⟨h7, hf⟩ := gm_ck_s hf
        refine gm_lald C (gm_rw_l0 h6) (gm_rw_k0 h6) (gm_rw_n0 h6) h7 dX3_rulesSayingYes_22 ?_
        refine gm_iload_n C dX3_rulesSayingYes_23 rfl 1 rfl ?_
        refine gm_bipush (v := 63) C dX3_rulesSayingYes_24 (by decide) ?_
        refine gm_iand C dX3_rulesSayingYes_26 ?_
        refine gm_lshr C dX3_rulesSayingYes_27 rfl ?_
        refine gm_lconst (v := 1) C dX3_rulesSayingYes_28 (by decide) ?_
        refine gm_land C dX3_rulesSayingYes_29 ?_
        refine gm_lconst (v := 0) C dX3_rulesSayingYes_30 (by decide) ?_
        refine gm_lcmp C dX3_rulesSayingYes_31 ?_
        obtain ⟨x8, hx, hf⟩ := gm_bp1_s hf
        have key : gm_G p l e { frames := 0, cells := 0, slots := 0, locals := 0 } s m args below meth c (MQ below (gm_Q cf ad gm_sC 106 (some (.int r)) S) args s 0 0 (gm_A ad 106)) cf ad gm_sC 106 4 S 41 [(0, .ref (ad 12)), (1, .int a0), (2, .int x8), (3, .int y2)] [] := by
          obtain ⟨x9, ex9, hf⟩ := gm_lt_s hf
          refine gm_iinc (v := x9) (lv' := [(3, .int x9), (0, .ref (ad 12)), (1, .int a0), (2, .int x8)]) (j := 3) C dX3_rulesSayingYes_41 rfl (by rw [ex9]; rfl) (by decide) rfl ?_
          refine gm_goto C 4 dX3_rulesSayingYes_44 (by decide) ?_
          exact gm_lvp [1, 2, 3, 0] rfl (ih _ _ _ hf K)
        have hf := hx
        refine gm_if_eq C 41 dX3_rulesSayingYes_32 (by decide) (fun c10 => ?_) (fun c10 => ?_)
        · have hf := gm_it _ c10 hf
          cases hf
          exact gm_lvp [0, 1, 2, 3] rfl key
        · have hf := gm_if _ c10 hf
          refine gm_iload_n C dX3_rulesSayingYes_35 rfl 2 rfl ?_
          refine gm_iconst (v := 1) C dX3_rulesSayingYes_36 (by decide) ?_
          refine gm_iload_n C dX3_rulesSayingYes_37 rfl 3 rfl ?_
          refine gm_ishl C dX3_rulesSayingYes_38 ?_
          refine gm_ior C dX3_rulesSayingYes_39 ?_
          obtain ⟨x11, ex11, hf⟩ := gm_lt_s hf
          refine gm_topi ex11 ?_
          refine gm_istore_n (lv' := [(2, .int x11), (0, .ref (ad 12)), (1, .int a0), (3, .int y2)]) C dX3_rulesSayingYes_40 rfl (by decide) rfl ?_
          cases hf
          exact gm_lvp [1, 2, 0, 3] rfl key
  obtain ⟨z3, hx, hf⟩ := gm_bp1_s hf
  refine gm_lvp [2, 3, 1, 0] rfl (L4 fl _ _ _ hx ?_)
  refine gm_iload_n C dX3_rulesSayingYes_47 rfl 0 rfl ?_
  exact gm_iretK C hr rfl dX3_rulesSayingYes_48 hf
