theorem dX11_rises_0 : decode cX11_rises 0 = .ok (.iconst 0, 1) := by decide +kernel
theorem dX11_rises_1 : decode cX11_rises 1 = .ok (.istore_n 3, 1) := by decide +kernel
theorem dX11_rises_2 : decode cX11_rises 2 = .ok (.iconst 1, 1) := by decide +kernel
theorem dX11_rises_3 : decode cX11_rises 3 = .ok (.istore 4, 2) := by decide +kernel
theorem dX11_rises_5 : decode cX11_rises 5 = .ok (.iload 4, 2) := by decide +kernel
theorem dX11_rises_7 : decode cX11_rises 7 = .ok (.aload_n 0, 1) := by decide +kernel
theorem dX11_rises_8 : decode cX11_rises 8 = .ok (.getfield 63, 3) := by decide +kernel
theorem dX11_rises_11 : decode cX11_rises 11 = .ok (.if_icmp .ge 36, 3) := by decide +kernel
theorem dX11_rises_14 : decode cX11_rises 14 = .ok (.iload_n 3, 1) := by decide +kernel
theorem dX11_rises_15 : decode cX11_rises 15 = .ok (.aload_n 0, 1) := by decide +kernel
theorem dX11_rises_16 : decode cX11_rises 16 = .ok (.iload_n 1, 1) := by decide +kernel
theorem dX11_rises_17 : decode cX11_rises 17 = .ok (.iload 4, 2) := by decide +kernel
theorem dX11_rises_19 : decode cX11_rises 19 = .ok (.invokevirtual 194, 3) := by decide +kernel
theorem dX11_rises_22 : decode cX11_rises 22 = .ok (.aload_n 0, 1) := by decide +kernel
theorem dX11_rises_23 : decode cX11_rises 23 = .ok (.iload_n 1, 1) := by decide +kernel
theorem dX11_rises_24 : decode cX11_rises 24 = .ok (.iload 4, 2) := by decide +kernel
theorem dX11_rises_26 : decode cX11_rises 26 = .ok (.iconst 1, 1) := by decide +kernel
theorem dX11_rises_27 : decode cX11_rises 27 = .ok (.isub, 1) := by decide +kernel
theorem dX11_rises_28 : decode cX11_rises 28 = .ok (.invokevirtual 194, 3) := by decide +kernel
theorem dX11_rises_31 : decode cX11_rises 31 = .ok (.if_icmp .ge 7, 3) := by decide +kernel
theorem dX11_rises_34 : decode cX11_rises 34 = .ok (.iconst 1, 1) := by decide +kernel
theorem dX11_rises_35 : decode cX11_rises 35 = .ok (.goto 4, 3) := by decide +kernel
theorem dX11_rises_38 : decode cX11_rises 38 = .ok (.iconst 0, 1) := by decide +kernel
theorem dX11_rises_39 : decode cX11_rises 39 = .ok (.iadd, 1) := by decide +kernel
theorem dX11_rises_40 : decode cX11_rises 40 = .ok (.istore_n 3, 1) := by decide +kernel
theorem dX11_rises_41 : decode cX11_rises 41 = .ok (.iinc 4 1, 3) := by decide +kernel
theorem dX11_rises_44 : decode cX11_rises 44 = .ok (.goto (-39), 3) := by decide +kernel
theorem dX11_rises_47 : decode cX11_rises 47 = .ok (.iload_n 3, 1) := by decide +kernel
theorem dX11_rises_48 : decode cX11_rises 48 = .ok (.iload_n 2, 1) := by decide +kernel
theorem dX11_rises_49 : decode cX11_rises 49 = .ok (.if_icmp .gt 7, 3) := by decide +kernel
theorem dX11_rises_52 : decode cX11_rises 52 = .ok (.iconst 1, 1) := by decide +kernel
theorem dX11_rises_53 : decode cX11_rises 53 = .ok (.goto 4, 3) := by decide +kernel
theorem dX11_rises_56 : decode cX11_rises 56 = .ok (.iconst 0, 1) := by decide +kernel
theorem dX11_rises_57 : decode cX11_rises 57 = .ok (.ireturn, 1) := by decide +kernel
def Mo_rises_L5_b (fl : Nat) (a0 : Int32) (S : gm_M) (rec : Int32 → Int32 → Option (Int32)) (y1 : Int32) (y2 : Int32) : Option (Int32) :=
  if S.1 0 0 ≤ y2 then (
    some (y1)
  ) else (
    gm_bp1 (Mo_figureOf fl a0 y2 S) fun v5 =>
    gm_bp1 (Mo_figureOf fl a0 (y2 - 1) S) fun v6 =>
    gm_bp1 (show Option (Int32) from
      if v6 ≤ v5 then (
        some (0)
      ) else (
        some (1)
      )
    ) fun x7 =>
    gm_lt (α := Int32) (y1 + x7) fun x8 =>
    gm_lt (α := Int32) (y2 + 1) fun x9 =>
    rec x8 x9
  )
def Mo_rises_L5 (fl : Nat) (a0 : Int32) (S : gm_M) : Nat → Int32 → Int32 → Option (Int32)
  | 0 => fun _ _ => none
  | n + 1 => Mo_rises_L5_b fl a0 S (Mo_rises_L5 fl a0 S n)
def Mo_rises (fl : Nat) (a0 : Int32) (a1 : Int32) (S : gm_M) : Option Int32 :=
  gm_bp1 (Mo_rises_L5 fl a0 S fl 0 1) fun z3 =>
  if a1 < z3 then (
    some (0)
  ) else (
    some (1)
  )
set_option maxHeartbeats 4000000 in
set_option maxRecDepth 100000 in
theorem Mo_rises_c (l : Launch) (cf : gm_C) (ad : Nat → Nat) {fl : Nat}   {a0 : Int32} {a1 : Int32} {S : gm_M} {r : Int32}  (hf : Mo_rises fl a0 a1 S = some r) : gm_Met l yX11_rises cX11_rises 5 (some .boolean) 1 24 cf ad gm_sM 17 [.ref (ad 0), .int a0, .int a1] S (some (.int r)) S := by
  refine gm_met (by decide +kernel) (Nat.le_of_ble_eq_true rfl) ?_
  intro p e s m args below meth c C hr
  have C : gm_F p s m args meth c cf ad 17 cX11_rises 5 RX11 := C
  refine gm_lve (lv' := [(0, .ref (ad 0)), (1, .int a0), (2, .int a1)]) rfl ?_
  unfold Mo_rises at hf
  refine gm_iconst (v := 0) C dX11_rises_0 (by decide) ?_
  refine gm_istore_n (lv' := [(3, .int 0), (0, .ref (ad 0)), (1, .int a0), (2, .int a1)]) C dX11_rises_1 rfl (by decide) rfl ?_
  refine gm_iconst (v := 1) C dX11_rises_2 (by decide) ?_
  refine gm_istore (lv' := [(4, .int 1), (3, .int 0), (0, .ref (ad 0)), (1, .int a0), (2, .int a1)]) C dX11_rises_3 (by decide) rfl ?_
  have L5 : ∀ (n : Nat) (y1 : Int32) (y2 : Int32) (z3 : Int32), Mo_rises_L5 fl a0 S n y1 y2 = some (z3) → gm_G p l e { frames := 1, cells := 0, slots := 0, locals := 24 } s m args below meth c (MQ below (gm_Q cf ad gm_sM 17 (some (.int r)) S) args s 0 0 (gm_A ad 17)) cf ad gm_sM 17 5 S 47 [(2, .int a1), (3, .int z3)] [] → gm_G p l e { frames := 1, cells := 0, slots := 0, locals := 24 } s m args below meth c (MQ below (gm_Q cf ad gm_sM 17 (some (.int r)) S) args s 0 0 (gm_A ad 17)) cf ad gm_sM 17 5 S 5 [(0, .ref (ad 0)), (1, .int a0), (2, .int a1), (3, .int y1), (4, .int y2)] [] := by
    intro n
    induction n with
    | zero => intro y1 y2 z3 hf K; cases (show (none : Option _) = some _ from hf)
    | succ n ih =>
      intro y1 y2 z3 hf K
      have hf : Mo_rises_L5_b fl a0 S (Mo_rises_L5 fl a0 S n) y1 y2 = some (z3) := hf
      unfold Mo_rises_L5_b at hf
      refine gm_iload C dX11_rises_5 4 rfl ?_
      refine gm_aload_n C dX11_rises_7 rfl 0 rfl ?_
      refine gm_geti C (Nat.le_of_ble_eq_true rfl) rfl kc_11 (k := 0) rfl (by decide) rfl wl_840 dX11_rises_8 ?_
      refine gm_icmp_ge C 47 dX11_rises_11 (by decide) (fun c4 => ?_) (fun c4 => ?_)
      · have hf := gm_it _ c4 hf
        cases hf
        exact gm_lvp [2, 3] rfl K
      · have hf := gm_if _ c4 hf
        refine gm_iload_n C dX11_rises_14 rfl 3 rfl ?_
        refine gm_aload_n C dX11_rises_15 rfl 0 rfl ?_
        refine gm_iload_n C dX11_rises_16 rfl 1 rfl ?_
        refine gm_iload C dX11_rises_17 4 rfl ?_
        obtain ⟨v5, ev5, hf⟩ := gm_bp1_s hf
        refine gm_callVi (As := [.int a0, .int y2]) C (Mo_figureOf_c l cf ad ev5) (Nat.le_of_ble_eq_true rfl) rfl kc_11 wy_Mo_figureOf rfl wl_1062 rfl ⟨(Nat.le_of_ble_eq_true rfl), (Nat.le_of_ble_eq_true rfl)⟩ rfl (Nat.le_of_ble_eq_true rfl) dX11_rises_19 ?_
        refine gm_aload_n C dX11_rises_22 rfl 0 rfl ?_
        refine gm_iload_n C dX11_rises_23 rfl 1 rfl ?_
        refine gm_iload C dX11_rises_24 4 rfl ?_
        refine gm_iconst (v := 1) C dX11_rises_26 (by decide) ?_
        refine gm_isub C dX11_rises_27 ?_
        obtain ⟨v6, ev6, hf⟩ := gm_bp1_s hf
        refine gm_callVi (As := [.int a0, .int (y2 - 1)]) C (Mo_figureOf_c l cf ad ev6) (Nat.le_of_ble_eq_true rfl) rfl kc_11 wy_Mo_figureOf rfl wl_1062 rfl ⟨(Nat.le_of_ble_eq_true rfl), (Nat.le_of_ble_eq_true rfl)⟩ rfl (Nat.le_of_ble_eq_true rfl) dX11_rises_28 ?_
        obtain ⟨x7, hx, hf⟩ := gm_bp1_s hf
        have key : gm_G p l e { frames := 1, cells := 0, slots := 0, locals := 24 } s m args below meth c (MQ below (gm_Q cf ad gm_sM 17 (some (.int r)) S) args s 0 0 (gm_A ad 17)) cf ad gm_sM 17 5 S 39 [(0, .ref (ad 0)), (1, .int a0), (2, .int a1), (4, .int y2)] [.int x7, .int y1] := by
          refine gm_iadd C dX11_rises_39 ?_
          obtain ⟨x8, ex8, hf⟩ := gm_lt_s hf
          refine gm_topi ex8 ?_
          refine gm_istore_n (lv' := [(3, .int x8), (0, .ref (ad 0)), (1, .int a0), (2, .int a1), (4, .int y2)]) C dX11_rises_40 rfl (by decide) rfl ?_
          obtain ⟨x9, ex9, hf⟩ := gm_lt_s hf
          refine gm_iinc (v := x9) (lv' := [(4, .int x9), (3, .int x8), (0, .ref (ad 0)), (1, .int a0), (2, .int a1)]) (j := 4) C dX11_rises_41 rfl (by rw [ex9]; rfl) (by decide) rfl ?_
          refine gm_goto C 5 dX11_rises_44 (by decide) ?_
          exact gm_lvp [2, 3, 4, 1, 0] rfl (ih _ _ _ hf K)
        have hf := hx
        refine gm_icmp_ge C 38 dX11_rises_31 (by decide) (fun c10 => ?_) (fun c10 => ?_)
        · have hf := gm_it _ c10 hf
          refine gm_iconst (v := 0) C dX11_rises_38 (by decide) ?_
          cases hf
          exact gm_lvp [0, 1, 2, 4] rfl key
        · have hf := gm_if _ c10 hf
          refine gm_iconst (v := 1) C dX11_rises_34 (by decide) ?_
          refine gm_goto C 39 dX11_rises_35 (by decide) ?_
          cases hf
          exact gm_lvp [0, 1, 2, 4] rfl key
  obtain ⟨z3, hx, hf⟩ := gm_bp1_s hf
  refine gm_lvp [2, 3, 4, 1, 0] rfl (L5 fl _ _ _ hx ?_)
  refine gm_iload_n C dX11_rises_47 rfl 1 rfl ?_
  refine gm_iload_n C dX11_rises_48 rfl 0 rfl ?_
  refine gm_icmp_gt C 56 dX11_rises_49 (by decide) (fun c11 => ?_) (fun c11 => ?_)
  · have hf := gm_it _ c11 hf
    refine gm_iconst (v := 0) C dX11_rises_56 (by decide) ?_
    exact gm_iretK C hr rfl dX11_rises_57 hf
  · have hf := gm_if _ c11 hf
    refine gm_iconst (v := 1) C dX11_rises_52 (by decide) ?_
    refine gm_goto C 57 dX11_rises_53 (by decide) ?_
    exact gm_iretK C hr rfl dX11_rises_57 hf
theorem dX11_saysYes_0 : decode cX11_saysYes 0 = .ok (.iload_n 1, 1) := by decide +kernel
theorem dX11_saysYes_1 : decode cX11_saysYes 1 = .ok (.tableswitch 70 0 3 #[31, 39, 47, 56], 31) := by decide +kernel
theorem dX11_saysYes_32 : decode cX11_saysYes 32 = .ok (.aload_n 0, 1) := by decide +kernel
theorem dX11_saysYes_33 : decode cX11_saysYes 33 = .ok (.iload 4, 2) := by decide +kernel
theorem dX11_saysYes_35 : decode cX11_saysYes 35 = .ok (.iload_n 2, 1) := by decide +kernel
theorem dX11_saysYes_36 : decode cX11_saysYes 36 = .ok (.invokevirtual 197, 3) := by decide +kernel
theorem dX11_saysYes_39 : decode cX11_saysYes 39 = .ok (.ireturn, 1) := by decide +kernel
theorem dX11_saysYes_40 : decode cX11_saysYes 40 = .ok (.aload_n 0, 1) := by decide +kernel
theorem dX11_saysYes_41 : decode cX11_saysYes 41 = .ok (.iload 4, 2) := by decide +kernel
theorem dX11_saysYes_43 : decode cX11_saysYes 43 = .ok (.iload_n 2, 1) := by decide +kernel
theorem dX11_saysYes_44 : decode cX11_saysYes 44 = .ok (.invokevirtual 201, 3) := by decide +kernel
theorem dX11_saysYes_47 : decode cX11_saysYes 47 = .ok (.ireturn, 1) := by decide +kernel
theorem dX11_saysYes_48 : decode cX11_saysYes 48 = .ok (.aload_n 0, 1) := by decide +kernel
theorem dX11_saysYes_49 : decode cX11_saysYes 49 = .ok (.iload 4, 2) := by decide +kernel
theorem dX11_saysYes_51 : decode cX11_saysYes 51 = .ok (.iload_n 2, 1) := by decide +kernel
theorem dX11_saysYes_52 : decode cX11_saysYes 52 = .ok (.iload_n 3, 1) := by decide +kernel
theorem dX11_saysYes_53 : decode cX11_saysYes 53 = .ok (.invokevirtual 204, 3) := by decide +kernel
theorem dX11_saysYes_56 : decode cX11_saysYes 56 = .ok (.ireturn, 1) := by decide +kernel
theorem dX11_saysYes_57 : decode cX11_saysYes 57 = .ok (.iload 4, 2) := by decide +kernel
theorem dX11_saysYes_59 : decode cX11_saysYes 59 = .ok (.iload_n 2, 1) := by decide +kernel
theorem dX11_saysYes_60 : decode cX11_saysYes 60 = .ok (.irem, 1) := by decide +kernel
theorem dX11_saysYes_61 : decode cX11_saysYes 61 = .ok (.iload_n 3, 1) := by decide +kernel
theorem dX11_saysYes_62 : decode cX11_saysYes 62 = .ok (.if_icmp .ne 7, 3) := by decide +kernel
theorem dX11_saysYes_65 : decode cX11_saysYes 65 = .ok (.iconst 1, 1) := by decide +kernel
theorem dX11_saysYes_66 : decode cX11_saysYes 66 = .ok (.goto 4, 3) := by decide +kernel
theorem dX11_saysYes_69 : decode cX11_saysYes 69 = .ok (.iconst 0, 1) := by decide +kernel
theorem dX11_saysYes_70 : decode cX11_saysYes 70 = .ok (.ireturn, 1) := by decide +kernel
theorem dX11_saysYes_71 : decode cX11_saysYes 71 = .ok (.aload_n 0, 1) := by decide +kernel
theorem dX11_saysYes_72 : decode cX11_saysYes 72 = .ok (.iload 4, 2) := by decide +kernel
theorem dX11_saysYes_74 : decode cX11_saysYes 74 = .ok (.iload_n 2, 1) := by decide +kernel
theorem dX11_saysYes_75 : decode cX11_saysYes 75 = .ok (.invokevirtual 207, 3) := by decide +kernel
theorem dX11_saysYes_78 : decode cX11_saysYes 78 = .ok (.ireturn, 1) := by decide +kernel
def Mo_saysYes (fl : Nat) (a0 : Int32) (a1 : Int32) (a2 : Int32) (a3 : Int32) (S : gm_M) : Option Int32 :=
  if a0 = 0 then (
    gm_bp1 (Mo_halves fl a3 a1 S) fun v2 =>
    if vp_nar .boolean v2 = v2 then (some v2) else none
  ) else (
  if a0 = 1 then (
    gm_bp1 (Mo_mirror fl a3 a1 S) fun v5 =>
    if vp_nar .boolean v5 = v5 then (some v5) else none
  ) else (
  if a0 = 2 then (
    gm_bp1 (Mo_counts fl a3 a1 a2 S) fun v8 =>
    if vp_nar .boolean v8 = v8 then (some v8) else none
  ) else (
  if a0 = 3 then (
    if a1 = 0 then none else
    if gm_rm a3 a1 = a2 then (
      some (1)
    ) else (
      some (0)
    )
  ) else (
    gm_bp1 (Mo_rises fl a3 a1 S) fun v13 =>
    if vp_nar .boolean v13 = v13 then (some v13) else none
  ))))
set_option maxHeartbeats 4000000 in
set_option maxRecDepth 100000 in
theorem Mo_saysYes_c (l : Launch) (cf : gm_C) (ad : Nat → Nat) {fl : Nat}   {a0 : Int32} {a1 : Int32} {a2 : Int32} {a3 : Int32} {S : gm_M} {r : Int32}  (hf : Mo_saysYes fl a0 a1 a2 a3 S = some r) : gm_Met l yX11_saysYes cX11_saysYes 5 (some .boolean) 2 49 cf ad gm_sM 17 [.ref (ad 0), .int a0, .int a1, .int a2, .int a3] S (some (.int r)) S := by
  refine gm_met (by decide +kernel) (Nat.le_of_ble_eq_true rfl) ?_
  intro p e s m args below meth c C hr
  have C : gm_F p s m args meth c cf ad 17 cX11_saysYes 5 RX11 := C
  refine gm_lve (lv' := [(0, .ref (ad 0)), (1, .int a0), (2, .int a1), (3, .int a2), (4, .int a3)]) rfl ?_
  unfold Mo_saysYes at hf
  refine gm_iload_n C dX11_saysYes_0 rfl 1 rfl ?_
  by_cases c1 : a0 = 0
  · have hf := gm_it _ c1 hf
    refine gm_tableIn C 32 dX11_saysYes_1 (by rw [c1]; decide) (by rw [c1]; decide) (by rw [c1]; rfl) (by decide) ?_
    refine gm_aload_n C dX11_saysYes_32 rfl 0 rfl ?_
    refine gm_iload C dX11_saysYes_33 4 rfl ?_
    refine gm_iload_n C dX11_saysYes_35 rfl 2 rfl ?_
    obtain ⟨v2, ev2, hf⟩ := gm_bp1_s hf
    refine gm_callVi (As := [.int a3, .int a1]) C (Mo_halves_c l cf ad ev2) (Nat.le_of_ble_eq_true rfl) rfl kc_11 wy_Mo_halves rfl wl_1058 rfl ⟨(Nat.le_of_ble_eq_true rfl), (Nat.le_of_ble_eq_true rfl)⟩ rfl (Nat.le_of_ble_eq_true rfl) dX11_saysYes_36 ?_
    obtain ⟨h3, hf⟩ := gm_in _ hf
    exact gm_iretK C hr (gm_zb h3) dX11_saysYes_39 hf
  · have hf := gm_if _ c1 hf
    by_cases c4 : a0 = 1
    · have hf := gm_it _ c4 hf
      refine gm_tableIn C 40 dX11_saysYes_1 (by rw [c4]; decide) (by rw [c4]; decide) (by rw [c4]; rfl) (by decide) ?_
      refine gm_aload_n C dX11_saysYes_40 rfl 0 rfl ?_
      refine gm_iload C dX11_saysYes_41 4 rfl ?_
      refine gm_iload_n C dX11_saysYes_43 rfl 2 rfl ?_
      obtain ⟨v5, ev5, hf⟩ := gm_bp1_s hf
      refine gm_callVi (As := [.int a3, .int a1]) C (Mo_mirror_c l cf ad ev5) (Nat.le_of_ble_eq_true rfl) rfl kc_11 wy_Mo_mirror rfl wl_1066 rfl ⟨(Nat.le_of_ble_eq_true rfl), (Nat.le_of_ble_eq_true rfl)⟩ rfl (Nat.le_of_ble_eq_true rfl) dX11_saysYes_44 ?_
      obtain ⟨h6, hf⟩ := gm_in _ hf
      exact gm_iretK C hr (gm_zb h6) dX11_saysYes_47 hf
    · have hf := gm_if _ c4 hf
      by_cases c7 : a0 = 2
      · have hf := gm_it _ c7 hf
        refine gm_tableIn C 48 dX11_saysYes_1 (by rw [c7]; decide) (by rw [c7]; decide) (by rw [c7]; rfl) (by decide) ?_
        refine gm_aload_n C dX11_saysYes_48 rfl 0 rfl ?_
        refine gm_iload C dX11_saysYes_49 4 rfl ?_
        refine gm_iload_n C dX11_saysYes_51 rfl 2 rfl ?_
        refine gm_iload_n C dX11_saysYes_52 rfl 3 rfl ?_
        obtain ⟨v8, ev8, hf⟩ := gm_bp1_s hf
        refine gm_callVi (As := [.int a3, .int a1, .int a2]) C (Mo_counts_c l cf ad ev8) (Nat.le_of_ble_eq_true rfl) rfl kc_11 wy_Mo_counts rfl wl_1070 rfl ⟨(Nat.le_of_ble_eq_true rfl), (Nat.le_of_ble_eq_true rfl)⟩ rfl (Nat.le_of_ble_eq_true rfl) dX11_saysYes_53 ?_
        obtain ⟨h9, hf⟩ := gm_in _ hf
        exact gm_iretK C hr (gm_zb h9) dX11_saysYes_56 hf
      · have hf := gm_if _ c7 hf
        by_cases c10 : a0 = 3
        · have hf := gm_it _ c10 hf
          refine gm_tableIn C 57 dX11_saysYes_1 (by rw [c10]; decide) (by rw [c10]; decide) (by rw [c10]; rfl) (by decide) ?_
          refine gm_iload C dX11_saysYes_57 4 rfl ?_
          refine gm_iload_n C dX11_saysYes_59 rfl 2 rfl ?_
          obtain ⟨h11, hf⟩ := gm_iz _ hf
          refine gm_irem C dX11_saysYes_60 h11 ?_
          refine gm_iload_n C dX11_saysYes_61 rfl 3 rfl ?_
          refine gm_icmp_ne C 69 dX11_saysYes_62 (by decide) (fun c12 => ?_) (fun c12 => ?_)
          · have hf := gm_if _ c12 hf
            refine gm_iconst (v := 0) C dX11_saysYes_69 (by decide) ?_
            exact gm_iretK C hr rfl dX11_saysYes_70 hf
          · have hf := gm_it _ c12 hf
            refine gm_iconst (v := 1) C dX11_saysYes_65 (by decide) ?_
            refine gm_goto C 70 dX11_saysYes_66 (by decide) ?_
            exact gm_iretK C hr rfl dX11_saysYes_70 hf
        · have hf := gm_if _ c10 hf
          have nc1 : (a0).toInt ≠ 0 := gm_nt c1
          have nc4 : (a0).toInt ≠ 1 := gm_nt c4
          have nc7 : (a0).toInt ≠ 2 := gm_nt c7
          have nc10 : (a0).toInt ≠ 3 := gm_nt c10
          refine gm_tableOut C 71 dX11_saysYes_1 (by omega) (by decide) ?_
          refine gm_aload_n C dX11_saysYes_71 rfl 0 rfl ?_
          refine gm_iload C dX11_saysYes_72 4 rfl ?_
          refine gm_iload_n C dX11_saysYes_74 rfl 2 rfl ?_
          obtain ⟨v13, ev13, hf⟩ := gm_bp1_s hf
          refine gm_callVi (As := [.int a3, .int a1]) C (Mo_rises_c l cf ad ev13) (Nat.le_of_ble_eq_true rfl) rfl kc_11 wy_Mo_rises rfl wl_1074 rfl ⟨(Nat.le_of_ble_eq_true rfl), (Nat.le_of_ble_eq_true rfl)⟩ rfl (Nat.le_of_ble_eq_true rfl) dX11_saysYes_75 ?_
          obtain ⟨h14, hf⟩ := gm_in _ hf
          exact gm_iretK C hr (gm_zb h14) dX11_saysYes_78 hf
theorem dX11_isYes_0 : decode cX11_isYes 0 = .ok (.aload_n 0, 1) := by decide +kernel
theorem dX11_isYes_1 : decode cX11_isYes 1 = .ok (.aload_n 0, 1) := by decide +kernel
theorem dX11_isYes_2 : decode cX11_isYes 2 = .ok (.getfield 13, 3) := by decide +kernel
theorem dX11_isYes_5 : decode cX11_isYes 5 = .ok (.iconst 1, 1) := by decide +kernel
theorem dX11_isYes_6 : decode cX11_isYes 6 = .ok (.iload_n 1, 1) := by decide +kernel
theorem dX11_isYes_7 : decode cX11_isYes 7 = .ok (.iadd, 1) := by decide +kernel
theorem dX11_isYes_8 : decode cX11_isYes 8 = .ok (.iaload, 1) := by decide +kernel
theorem dX11_isYes_9 : decode cX11_isYes 9 = .ok (.aload_n 0, 1) := by decide +kernel
theorem dX11_isYes_10 : decode cX11_isYes 10 = .ok (.getfield 13, 3) := by decide +kernel
theorem dX11_isYes_13 : decode cX11_isYes 13 = .ok (.iconst 5, 1) := by decide +kernel
theorem dX11_isYes_14 : decode cX11_isYes 14 = .ok (.iload_n 1, 1) := by decide +kernel
theorem dX11_isYes_15 : decode cX11_isYes 15 = .ok (.iadd, 1) := by decide +kernel
theorem dX11_isYes_16 : decode cX11_isYes 16 = .ok (.iaload, 1) := by decide +kernel
theorem dX11_isYes_17 : decode cX11_isYes 17 = .ok (.aload_n 0, 1) := by decide +kernel
theorem dX11_isYes_18 : decode cX11_isYes 18 = .ok (.getfield 13, 3) := by decide +kernel
theorem dX11_isYes_21 : decode cX11_isYes 21 = .ok (.bipush 9, 2) := by decide +kernel
theorem dX11_isYes_23 : decode cX11_isYes 23 = .ok (.iload_n 1, 1) := by decide +kernel
theorem dX11_isYes_24 : decode cX11_isYes 24 = .ok (.iadd, 1) := by decide +kernel
theorem dX11_isYes_25 : decode cX11_isYes 25 = .ok (.iaload, 1) := by decide +kernel
theorem dX11_isYes_26 : decode cX11_isYes 26 = .ok (.iload_n 2, 1) := by decide +kernel
theorem dX11_isYes_27 : decode cX11_isYes 27 = .ok (.invokevirtual 210, 3) := by decide +kernel
theorem dX11_isYes_30 : decode cX11_isYes 30 = .ok (.ireturn, 1) := by decide +kernel
def Mo_isYes (fl : Nat) (a0 : Int32) (a1 : Int32) (S : gm_M) : Option Int32 :=
  gm_ck (1 + a0) 42 <|
  gm_ck (5 + a0) 42 <|
  gm_ck (9 + a0) 42 <|
  gm_bp1 (Mo_saysYes fl (S.1 2 (1 + a0).toNatClampNeg) (S.1 2 (5 + a0).toNatClampNeg) (S.1 2 (9 + a0).toNatClampNeg) a1 S) fun v4 =>
  if vp_nar .boolean v4 = v4 then (some v4) else none
set_option maxHeartbeats 4000000 in
set_option maxRecDepth 100000 in
theorem Mo_isYes_c (l : Launch) (cf : gm_C) (ad : Nat → Nat) {fl : Nat}   {a0 : Int32} {a1 : Int32} {S : gm_M} {r : Int32}  (hf : Mo_isYes fl a0 a1 S = some r) : gm_Met l yX11_isYes cX11_isYes 3 (some .boolean) 3 73 cf ad gm_sM 17 [.ref (ad 0), .int a0, .int a1] S (some (.int r)) S := by
  refine gm_met (by decide +kernel) (Nat.le_of_ble_eq_true rfl) ?_
  intro p e s m args below meth c C hr
  have C : gm_F p s m args meth c cf ad 17 cX11_isYes 3 RX11 := C
  refine gm_lve (lv' := [(0, .ref (ad 0)), (1, .int a0), (2, .int a1)]) rfl ?_
  unfold Mo_isYes at hf
  refine gm_aload_n C dX11_isYes_0 rfl 0 rfl ?_
  refine gm_aload_n C dX11_isYes_1 rfl 0 rfl ?_
  refine gm_getr (j := 2) (u := 2) C (Nat.le_of_ble_eq_true rfl) rfl kc_11 (k := 6) rfl (by decide) rfl rfl wl_846 dX11_isYes_2 ?_
  refine gm_iconst (v := 1) C dX11_isYes_5 (by decide) ?_
  refine gm_iload_n C dX11_isYes_6 rfl 1 rfl ?_
  refine gm_iadd C dX11_isYes_7 ?_
  obtain ⟨h1, hf⟩ := gm_ck_s hf
  refine gm_iald C (Nat.le_of_ble_eq_true rfl) rfl rfl h1 dX11_isYes_8 ?_
  refine gm_aload_n C dX11_isYes_9 rfl 0 rfl ?_
  refine gm_getr (j := 2) (u := 2) C (Nat.le_of_ble_eq_true rfl) rfl kc_11 (k := 6) rfl (by decide) rfl rfl wl_846 dX11_isYes_10 ?_
  refine gm_iconst (v := 5) C dX11_isYes_13 (by decide) ?_
  refine gm_iload_n C dX11_isYes_14 rfl 1 rfl ?_
  refine gm_iadd C dX11_isYes_15 ?_
  obtain ⟨h2, hf⟩ := gm_ck_s hf
  refine gm_iald C (Nat.le_of_ble_eq_true rfl) rfl rfl h2 dX11_isYes_16 ?_
  refine gm_aload_n C dX11_isYes_17 rfl 0 rfl ?_
  refine gm_getr (j := 2) (u := 2) C (Nat.le_of_ble_eq_true rfl) rfl kc_11 (k := 6) rfl (by decide) rfl rfl wl_846 dX11_isYes_18 ?_
  refine gm_bipush (v := 9) C dX11_isYes_21 (by decide) ?_
  refine gm_iload_n C dX11_isYes_23 rfl 1 rfl ?_
  refine gm_iadd C dX11_isYes_24 ?_
  obtain ⟨h3, hf⟩ := gm_ck_s hf
  refine gm_iald C (Nat.le_of_ble_eq_true rfl) rfl rfl h3 dX11_isYes_25 ?_
  refine gm_iload_n C dX11_isYes_26 rfl 2 rfl ?_
  obtain ⟨v4, ev4, hf⟩ := gm_bp1_s hf
  refine gm_callVi (As := [.int (S.1 2 (1 + a0).toNatClampNeg), .int (S.1 2 (5 + a0).toNatClampNeg), .int (S.1 2 (9 + a0).toNatClampNeg), .int a1]) C (Mo_saysYes_c l cf ad ev4) (Nat.le_of_ble_eq_true rfl) rfl kc_11 wy_Mo_saysYes rfl wl_1054 rfl ⟨(Nat.le_of_ble_eq_true rfl), (Nat.le_of_ble_eq_true rfl)⟩ rfl (Nat.le_of_ble_eq_true rfl) dX11_isYes_27 ?_
  obtain ⟨h5, hf⟩ := gm_in _ hf
  exact gm_iretK C hr (gm_zb h5) dX11_isYes_30 hf
theorem dX11_isLuckyBut_0 : decode cX11_isLuckyBut 0 = .ok (.iconst 0, 1) := by decide +kernel
theorem dX11_isLuckyBut_1 : decode cX11_isLuckyBut 1 = .ok (.istore_n 3, 1) := by decide +kernel
theorem dX11_isLuckyBut_2 : decode cX11_isLuckyBut 2 = .ok (.iconst 0, 1) := by decide +kernel
theorem dX11_isLuckyBut_3 : decode cX11_isLuckyBut 3 = .ok (.istore 4, 2) := by decide +kernel
theorem dX11_isLuckyBut_5 : decode cX11_isLuckyBut 5 = .ok (.iconst 0, 1) := by decide +kernel
theorem dX11_isLuckyBut_6 : decode cX11_isLuckyBut 6 = .ok (.istore 5, 2) := by decide +kernel
theorem dX11_isLuckyBut_8 : decode cX11_isLuckyBut 8 = .ok (.iload 5, 2) := by decide +kernel
theorem dX11_isLuckyBut_10 : decode cX11_isLuckyBut 10 = .ok (.aload_n 0, 1) := by decide +kernel
theorem dX11_isLuckyBut_11 : decode cX11_isLuckyBut 11 = .ok (.getfield 66, 3) := by decide +kernel
theorem dX11_isLuckyBut_14 : decode cX11_isLuckyBut 14 = .ok (.if_icmp .ge 49, 3) := by decide +kernel
theorem dX11_isLuckyBut_17 : decode cX11_isLuckyBut 17 = .ok (.iload_n 3, 1) := by decide +kernel
theorem dX11_isLuckyBut_18 : decode cX11_isLuckyBut 18 = .ok (.iload 5, 2) := by decide +kernel
theorem dX11_isLuckyBut_20 : decode cX11_isLuckyBut 20 = .ok (.iload_n 1, 1) := by decide +kernel
theorem dX11_isLuckyBut_21 : decode cX11_isLuckyBut 21 = .ok (.if_icmp .eq 17, 3) := by decide +kernel
theorem dX11_isLuckyBut_24 : decode cX11_isLuckyBut 24 = .ok (.aload_n 0, 1) := by decide +kernel
theorem dX11_isLuckyBut_25 : decode cX11_isLuckyBut 25 = .ok (.iload 5, 2) := by decide +kernel
theorem dX11_isLuckyBut_27 : decode cX11_isLuckyBut 27 = .ok (.iload_n 2, 1) := by decide +kernel
theorem dX11_isLuckyBut_28 : decode cX11_isLuckyBut 28 = .ok (.invokevirtual 214, 3) := by decide +kernel
theorem dX11_isLuckyBut_31 : decode cX11_isLuckyBut 31 = .ok (.ifCond .eq 7, 3) := by decide +kernel
theorem dX11_isLuckyBut_34 : decode cX11_isLuckyBut 34 = .ok (.iconst 1, 1) := by decide +kernel
theorem dX11_isLuckyBut_35 : decode cX11_isLuckyBut 35 = .ok (.goto 4, 3) := by decide +kernel
theorem dX11_isLuckyBut_38 : decode cX11_isLuckyBut 38 = .ok (.iconst 0, 1) := by decide +kernel
theorem dX11_isLuckyBut_39 : decode cX11_isLuckyBut 39 = .ok (.iadd, 1) := by decide +kernel
theorem dX11_isLuckyBut_40 : decode cX11_isLuckyBut 40 = .ok (.istore_n 3, 1) := by decide +kernel
theorem dX11_isLuckyBut_41 : decode cX11_isLuckyBut 41 = .ok (.iload 4, 2) := by decide +kernel
theorem dX11_isLuckyBut_43 : decode cX11_isLuckyBut 43 = .ok (.iload 5, 2) := by decide +kernel
theorem dX11_isLuckyBut_45 : decode cX11_isLuckyBut 45 = .ok (.iload_n 1, 1) := by decide +kernel
theorem dX11_isLuckyBut_46 : decode cX11_isLuckyBut 46 = .ok (.if_icmp .eq 7, 3) := by decide +kernel
theorem dX11_isLuckyBut_49 : decode cX11_isLuckyBut 49 = .ok (.iconst 1, 1) := by decide +kernel
theorem dX11_isLuckyBut_50 : decode cX11_isLuckyBut 50 = .ok (.goto 4, 3) := by decide +kernel
theorem dX11_isLuckyBut_53 : decode cX11_isLuckyBut 53 = .ok (.iconst 0, 1) := by decide +kernel
theorem dX11_isLuckyBut_54 : decode cX11_isLuckyBut 54 = .ok (.iadd, 1) := by decide +kernel
theorem dX11_isLuckyBut_55 : decode cX11_isLuckyBut 55 = .ok (.istore 4, 2) := by decide +kernel
theorem dX11_isLuckyBut_57 : decode cX11_isLuckyBut 57 = .ok (.iinc 5 1, 3) := by decide +kernel
theorem dX11_isLuckyBut_60 : decode cX11_isLuckyBut 60 = .ok (.goto (-52), 3) := by decide +kernel
theorem dX11_isLuckyBut_63 : decode cX11_isLuckyBut 63 = .ok (.iload 4, 2) := by decide +kernel
theorem dX11_isLuckyBut_65 : decode cX11_isLuckyBut 65 = .ok (.ifCond .le 30, 3) := by decide +kernel
theorem dX11_isLuckyBut_68 : decode cX11_isLuckyBut 68 = .ok (.aload_n 0, 1) := by decide +kernel
theorem dX11_isLuckyBut_69 : decode cX11_isLuckyBut 69 = .ok (.getfield 13, 3) := by decide +kernel
theorem dX11_isLuckyBut_72 : decode cX11_isLuckyBut 72 = .ok (.iconst 0, 1) := by decide +kernel
theorem dX11_isLuckyBut_73 : decode cX11_isLuckyBut 73 = .ok (.iaload, 1) := by decide +kernel
theorem dX11_isLuckyBut_74 : decode cX11_isLuckyBut 74 = .ok (.iconst 1, 1) := by decide +kernel
theorem dX11_isLuckyBut_75 : decode cX11_isLuckyBut 75 = .ok (.if_icmp .ne 10, 3) := by decide +kernel
theorem dX11_isLuckyBut_78 : decode cX11_isLuckyBut 78 = .ok (.iload_n 3, 1) := by decide +kernel
theorem dX11_isLuckyBut_79 : decode cX11_isLuckyBut 79 = .ok (.ifCond .le 16, 3) := by decide +kernel
theorem dX11_isLuckyBut_82 : decode cX11_isLuckyBut 82 = .ok (.goto 9, 3) := by decide +kernel
theorem dX11_isLuckyBut_85 : decode cX11_isLuckyBut 85 = .ok (.iload_n 3, 1) := by decide +kernel
theorem dX11_isLuckyBut_86 : decode cX11_isLuckyBut 86 = .ok (.iload 4, 2) := by decide +kernel
theorem dX11_isLuckyBut_88 : decode cX11_isLuckyBut 88 = .ok (.if_icmp .ne 7, 3) := by decide +kernel
theorem dX11_isLuckyBut_91 : decode cX11_isLuckyBut 91 = .ok (.iconst 1, 1) := by decide +kernel
theorem dX11_isLuckyBut_92 : decode cX11_isLuckyBut 92 = .ok (.goto 4, 3) := by decide +kernel
theorem dX11_isLuckyBut_95 : decode cX11_isLuckyBut 95 = .ok (.iconst 0, 1) := by decide +kernel
theorem dX11_isLuckyBut_96 : decode cX11_isLuckyBut 96 = .ok (.ireturn, 1) := by decide +kernel
def Mo_isLuckyBut_L8_b (fl : Nat) (a0 : Int32) (a1 : Int32) (S : gm_M) (rec : Int32 → Int32 → Int32 → Option (Int32 × Int32)) (y1 : Int32) (y2 : Int32) (y3 : Int32) : Option (Int32 × Int32) :=
  if S.1 0 2 ≤ y3 then (
    some (y1, y2)
  ) else (
    gm_bp1 (show Option (Int32) from
      if y3 = a0 then (
        some (0)
      ) else (
        gm_bp1 (Mo_isYes fl y3 a1 S) fun v14 =>
        if v14 = 0 then (
          some (0)
        ) else (
          some (1)
        )
      )
    ) fun x7 =>
    gm_lt (α := Int32) (y1 + x7) fun x8 =>
    gm_bp1 (show Option (Int32) from
      if y3 = a0 then (
        some (0)
      ) else (
        some (1)
      )
    ) fun x9 =>
    gm_lt (α := Int32) (y2 + x9) fun x10 =>
    gm_lt (α := Int32) (y3 + 1) fun x11 =>
    rec x8 x10 x11
  )
def Mo_isLuckyBut_L8 (fl : Nat) (a0 : Int32) (a1 : Int32) (S : gm_M) : Nat → Int32 → Int32 → Int32 → Option (Int32 × Int32)
  | 0 => fun _ _ _ => none
  | n + 1 => Mo_isLuckyBut_L8_b fl a0 a1 S (Mo_isLuckyBut_L8 fl a0 a1 S n)
def Mo_isLuckyBut (fl : Nat) (a0 : Int32) (a1 : Int32) (S : gm_M) : Option Int32 :=
  gm_bp2 (Mo_isLuckyBut_L8 fl a0 a1 S fl 0 0 0) fun z4 z5 =>
  if z5 ≤ 0 then (
    some (0)
  ) else (
    gm_ck (0) 42 <|
    if S.1 2 (0 : Int32).toNatClampNeg = 1 then (
      if z4 ≤ 0 then (
        some (0)
      ) else (
        some (1)
      )
    ) else (
      if z4 = z5 then (
        some (1)
      ) else (
        some (0)
      )
    )
  )
set_option maxHeartbeats 4000000 in
set_option maxRecDepth 100000 in
theorem Mo_isLuckyBut_c (l : Launch) (cf : gm_C) (ad : Nat → Nat) {fl : Nat}   {a0 : Int32} {a1 : Int32} {S : gm_M} {r : Int32}  (hf : Mo_isLuckyBut fl a0 a1 S = some r) : gm_Met l yX11_isLuckyBut cX11_isLuckyBut 6 (some .boolean) 4 95 cf ad gm_sM 17 [.ref (ad 0), .int a0, .int a1] S (some (.int r)) S := by
  refine gm_met (by decide +kernel) (Nat.le_of_ble_eq_true rfl) ?_
  intro p e s m args below meth c C hr
  have C : gm_F p s m args meth c cf ad 17 cX11_isLuckyBut 6 RX11 := C
  refine gm_lve (lv' := [(0, .ref (ad 0)), (1, .int a0), (2, .int a1)]) rfl ?_
  unfold Mo_isLuckyBut at hf
  refine gm_iconst (v := 0) C dX11_isLuckyBut_0 (by decide) ?_
  refine gm_istore_n (lv' := [(3, .int 0), (0, .ref (ad 0)), (1, .int a0), (2, .int a1)]) C dX11_isLuckyBut_1 rfl (by decide) rfl ?_
  refine gm_iconst (v := 0) C dX11_isLuckyBut_2 (by decide) ?_
  refine gm_istore (lv' := [(4, .int 0), (3, .int 0), (0, .ref (ad 0)), (1, .int a0), (2, .int a1)]) C dX11_isLuckyBut_3 (by decide) rfl ?_
  refine gm_iconst (v := 0) C dX11_isLuckyBut_5 (by decide) ?_
  refine gm_istore (lv' := [(5, .int 0), (4, .int 0), (3, .int 0), (0, .ref (ad 0)), (1, .int a0), (2, .int a1)]) C dX11_isLuckyBut_6 (by decide) rfl ?_
  have L8 : ∀ (n : Nat) (y1 : Int32) (y2 : Int32) (y3 : Int32) (z4 : Int32) (z5 : Int32), Mo_isLuckyBut_L8 fl a0 a1 S n y1 y2 y3 = some (z4, z5) → gm_G p l e { frames := 4, cells := 0, slots := 0, locals := 95 } s m args below meth c (MQ below (gm_Q cf ad gm_sM 17 (some (.int r)) S) args s 0 0 (gm_A ad 17)) cf ad gm_sM 17 6 S 63 [(0, .ref (ad 0)), (3, .int z4), (4, .int z5)] [] → gm_G p l e { frames := 4, cells := 0, slots := 0, locals := 95 } s m args below meth c (MQ below (gm_Q cf ad gm_sM 17 (some (.int r)) S) args s 0 0 (gm_A ad 17)) cf ad gm_sM 17 6 S 8 [(0, .ref (ad 0)), (1, .int a0), (2, .int a1), (3, .int y1), (4, .int y2), (5, .int y3)] [] := by
    intro n
    induction n with
    | zero => intro y1 y2 y3 z4 z5 hf K; cases (show (none : Option _) = some _ from hf)
    | succ n ih =>
      intro y1 y2 y3 z4 z5 hf K
      have hf : Mo_isLuckyBut_L8_b fl a0 a1 S (Mo_isLuckyBut_L8 fl a0 a1 S n) y1 y2 y3 = some (z4, z5) := hf
      unfold Mo_isLuckyBut_L8_b at hf
      refine gm_iload C dX11_isLuckyBut_8 5 rfl ?_
      refine gm_aload_n C dX11_isLuckyBut_10 rfl 0 rfl ?_
      refine gm_geti C (Nat.le_of_ble_eq_true rfl) rfl kc_11 (k := 2) rfl (by decide) rfl wl_842 dX11_isLuckyBut_11 ?_
      refine gm_icmp_ge C 63 dX11_isLuckyBut_14 (by decide) (fun c6 => ?_) (fun c6 => ?_)
      · have hf := gm_it _ c6 hf
        cases hf
        exact gm_lvp [0, 3, 4] rfl K
      · have hf := gm_if _ c6 hf
        refine gm_iload_n C dX11_isLuckyBut_17 rfl 3 rfl ?_
        refine gm_iload C dX11_isLuckyBut_18 5 rfl ?_
        refine gm_iload_n C dX11_isLuckyBut_20 rfl 1 rfl ?_
        obtain ⟨x7, hx, hf⟩ := gm_bp1_s hf
        have key : gm_G p l e { frames := 4, cells := 0, slots := 0, locals := 95 } s m args below meth c (MQ below (gm_Q cf ad gm_sM 17 (some (.int r)) S) args s 0 0 (gm_A ad 17)) cf ad gm_sM 17 6 S 39 [(0, .ref (ad 0)), (1, .int a0), (2, .int a1), (4, .int y2), (5, .int y3)] [.int x7, .int y1] := by
          refine gm_iadd C dX11_isLuckyBut_39 ?_
          obtain ⟨x8, ex8, hf⟩ := gm_lt_s hf
          refine gm_topi ex8 ?_
          refine gm_istore_n (lv' := [(3, .int x8), (0, .ref (ad 0)), (1, .int a0), (2, .int a1), (4, .int y2), (5, .int y3)]) C dX11_isLuckyBut_40 rfl (by decide) rfl ?_
          refine gm_iload C dX11_isLuckyBut_41 4 rfl ?_
          refine gm_iload C dX11_isLuckyBut_43 5 rfl ?_
          refine gm_iload_n C dX11_isLuckyBut_45 rfl 2 rfl ?_
          obtain ⟨x9, hx, hf⟩ := gm_bp1_s hf
          have key : gm_G p l e { frames := 4, cells := 0, slots := 0, locals := 95 } s m args below meth c (MQ below (gm_Q cf ad gm_sM 17 (some (.int r)) S) args s 0 0 (gm_A ad 17)) cf ad gm_sM 17 6 S 54 [(0, .ref (ad 0)), (1, .int a0), (2, .int a1), (3, .int x8), (5, .int y3)] [.int x9, .int y2] := by
            refine gm_iadd C dX11_isLuckyBut_54 ?_
            obtain ⟨x10, ex10, hf⟩ := gm_lt_s hf
            refine gm_topi ex10 ?_
            refine gm_istore (lv' := [(4, .int x10), (0, .ref (ad 0)), (1, .int a0), (2, .int a1), (3, .int x8), (5, .int y3)]) C dX11_isLuckyBut_55 (by decide) rfl ?_
            obtain ⟨x11, ex11, hf⟩ := gm_lt_s hf
            refine gm_iinc (v := x11) (lv' := [(5, .int x11), (4, .int x10), (0, .ref (ad 0)), (1, .int a0), (2, .int a1), (3, .int x8)]) (j := 5) C dX11_isLuckyBut_57 rfl (by rw [ex11]; rfl) (by decide) rfl ?_
            refine gm_goto C 8 dX11_isLuckyBut_60 (by decide) ?_
            exact gm_lvp [2, 3, 4, 5, 1, 0] rfl (ih _ _ _ _ _ hf K)
          have hf := hx
          refine gm_icmp_eq C 53 dX11_isLuckyBut_46 (by decide) (fun c12 => ?_) (fun c12 => ?_)
          · have hf := gm_it _ c12 hf
            refine gm_iconst (v := 0) C dX11_isLuckyBut_53 (by decide) ?_
            cases hf
            exact gm_lvp [1, 2, 3, 0, 5] rfl key
          · have hf := gm_if _ c12 hf
            refine gm_iconst (v := 1) C dX11_isLuckyBut_49 (by decide) ?_
            refine gm_goto C 54 dX11_isLuckyBut_50 (by decide) ?_
            cases hf
            exact gm_lvp [1, 2, 3, 0, 5] rfl key
        have hf := hx
        refine gm_icmp_eq C 38 dX11_isLuckyBut_21 (by decide) (fun c13 => ?_) (fun c13 => ?_)
        · have hf := gm_it _ c13 hf
          refine gm_iconst (v := 0) C dX11_isLuckyBut_38 (by decide) ?_
          cases hf
          exact gm_lvp [0, 1, 2, 4, 5] rfl key
        · have hf := gm_if _ c13 hf
          refine gm_aload_n C dX11_isLuckyBut_24 rfl 0 rfl ?_
          refine gm_iload C dX11_isLuckyBut_25 5 rfl ?_
          refine gm_iload_n C dX11_isLuckyBut_27 rfl 2 rfl ?_
          obtain ⟨v14, ev14, hf⟩ := gm_bp1_s hf
          refine gm_callVi (As := [.int y3, .int a1]) C (Mo_isYes_c l cf ad ev14) (Nat.le_of_ble_eq_true rfl) rfl kc_11 wy_Mo_isYes rfl wl_1050 rfl ⟨(Nat.le_of_ble_eq_true rfl), (Nat.le_of_ble_eq_true rfl)⟩ rfl (Nat.le_of_ble_eq_true rfl) dX11_isLuckyBut_28 ?_
          refine gm_if_eq C 38 dX11_isLuckyBut_31 (by decide) (fun c15 => ?_) (fun c15 => ?_)
          · have hf := gm_it _ c15 hf
            refine gm_iconst (v := 0) C dX11_isLuckyBut_38 (by decide) ?_
            cases hf
            exact gm_lvp [0, 1, 2, 4, 5] rfl key
          · have hf := gm_if _ c15 hf
            refine gm_iconst (v := 1) C dX11_isLuckyBut_34 (by decide) ?_
            refine gm_goto C 39 dX11_isLuckyBut_35 (by decide) ?_
            cases hf
            exact gm_lvp [0, 1, 2, 4, 5] rfl key
  obtain ⟨z4, z5, hx, hf⟩ := gm_bp2_s hf
  refine gm_lvp [3, 4, 5, 2, 1, 0] rfl (L8 fl _ _ _ _ _ hx ?_)
  refine gm_iload C dX11_isLuckyBut_63 2 rfl ?_
  refine gm_if_le C 95 dX11_isLuckyBut_65 (by decide) (fun c16 => ?_) (fun c16 => ?_)
  · have hf := gm_it _ c16 hf
    refine gm_iconst (v := 0) C dX11_isLuckyBut_95 (by decide) ?_
    exact gm_iretK C hr rfl dX11_isLuckyBut_96 hf
  · have hf := gm_if _ c16 hf
    refine gm_aload_n C dX11_isLuckyBut_68 rfl 0 rfl ?_
    refine gm_getr (j := 2) (u := 2) C (Nat.le_of_ble_eq_true rfl) rfl kc_11 (k := 6) rfl (by decide) rfl rfl wl_846 dX11_isLuckyBut_69 ?_
    refine gm_iconst (v := 0) C dX11_isLuckyBut_72 (by decide) ?_
    obtain ⟨h17, hf⟩ := gm_ck_s hf
    refine gm_iald C (Nat.le_of_ble_eq_true rfl) rfl rfl h17 dX11_isLuckyBut_73 ?_
    refine gm_iconst (v := 1) C dX11_isLuckyBut_74 (by decide) ?_
    refine gm_icmp_ne C 85 dX11_isLuckyBut_75 (by decide) (fun c18 => ?_) (fun c18 => ?_)
    · have hf := gm_if _ c18 hf
      refine gm_iload_n C dX11_isLuckyBut_85 rfl 1 rfl ?_
      refine gm_iload C dX11_isLuckyBut_86 2 rfl ?_
      refine gm_icmp_ne C 95 dX11_isLuckyBut_88 (by decide) (fun c19 => ?_) (fun c19 => ?_)
      · have hf := gm_if _ c19 hf
        refine gm_iconst (v := 0) C dX11_isLuckyBut_95 (by decide) ?_
        exact gm_iretK C hr rfl dX11_isLuckyBut_96 hf
      · have hf := gm_it _ c19 hf
        refine gm_iconst (v := 1) C dX11_isLuckyBut_91 (by decide) ?_
        refine gm_goto C 96 dX11_isLuckyBut_92 (by decide) ?_
        exact gm_iretK C hr rfl dX11_isLuckyBut_96 hf
    · have hf := gm_it _ c18 hf
      refine gm_iload_n C dX11_isLuckyBut_78 rfl 1 rfl ?_
      refine gm_if_le C 95 dX11_isLuckyBut_79 (by decide) (fun c20 => ?_) (fun c20 => ?_)
      · have hf := gm_it _ c20 hf
        refine gm_iconst (v := 0) C dX11_isLuckyBut_95 (by decide) ?_
        exact gm_iretK C hr rfl dX11_isLuckyBut_96 hf
      · have hf := gm_if _ c20 hf
        refine gm_goto C 91 dX11_isLuckyBut_82 (by decide) ?_
        refine gm_iconst (v := 1) C dX11_isLuckyBut_91 (by decide) ?_
        refine gm_goto C 96 dX11_isLuckyBut_92 (by decide) ?_
        exact gm_iretK C hr rfl dX11_isLuckyBut_96 hf
theorem dX11_manyBut_0 : decode cX11_manyBut 0 = .ok (.iconst 0, 1) := by decide +kernel
theorem dX11_manyBut_1 : decode cX11_manyBut 1 = .ok (.istore 4, 2) := by decide +kernel
theorem dX11_manyBut_3 : decode cX11_manyBut 3 = .ok (.iload_n 2, 1) := by decide +kernel
theorem dX11_manyBut_4 : decode cX11_manyBut 4 = .ok (.istore 5, 2) := by decide +kernel
theorem dX11_manyBut_6 : decode cX11_manyBut 6 = .ok (.iload 5, 2) := by decide +kernel
theorem dX11_manyBut_8 : decode cX11_manyBut 8 = .ok (.iload_n 3, 1) := by decide +kernel
theorem dX11_manyBut_9 : decode cX11_manyBut 9 = .ok (.if_icmp .gt 36, 3) := by decide +kernel
theorem dX11_manyBut_12 : decode cX11_manyBut 12 = .ok (.aload_n 0, 1) := by decide +kernel
theorem dX11_manyBut_13 : decode cX11_manyBut 13 = .ok (.getfield 63, 3) := by decide +kernel
theorem dX11_manyBut_16 : decode cX11_manyBut 16 = .ok (.ifCond .le 29, 3) := by decide +kernel
theorem dX11_manyBut_19 : decode cX11_manyBut 19 = .ok (.iload 4, 2) := by decide +kernel
theorem dX11_manyBut_21 : decode cX11_manyBut 21 = .ok (.aload_n 0, 1) := by decide +kernel
theorem dX11_manyBut_22 : decode cX11_manyBut 22 = .ok (.iload_n 1, 1) := by decide +kernel
theorem dX11_manyBut_23 : decode cX11_manyBut 23 = .ok (.iload 5, 2) := by decide +kernel
theorem dX11_manyBut_25 : decode cX11_manyBut 25 = .ok (.invokevirtual 217, 3) := by decide +kernel
theorem dX11_manyBut_28 : decode cX11_manyBut 28 = .ok (.ifCond .eq 7, 3) := by decide +kernel
theorem dX11_manyBut_31 : decode cX11_manyBut 31 = .ok (.iconst 1, 1) := by decide +kernel
theorem dX11_manyBut_32 : decode cX11_manyBut 32 = .ok (.goto 4, 3) := by decide +kernel
theorem dX11_manyBut_35 : decode cX11_manyBut 35 = .ok (.iconst 0, 1) := by decide +kernel
theorem dX11_manyBut_36 : decode cX11_manyBut 36 = .ok (.iadd, 1) := by decide +kernel
theorem dX11_manyBut_37 : decode cX11_manyBut 37 = .ok (.istore 4, 2) := by decide +kernel
theorem dX11_manyBut_39 : decode cX11_manyBut 39 = .ok (.iinc 5 1, 3) := by decide +kernel
theorem dX11_manyBut_42 : decode cX11_manyBut 42 = .ok (.goto (-36), 3) := by decide +kernel
theorem dX11_manyBut_45 : decode cX11_manyBut 45 = .ok (.iload 4, 2) := by decide +kernel
theorem dX11_manyBut_47 : decode cX11_manyBut 47 = .ok (.ireturn, 1) := by decide +kernel
def Mo_manyBut_L6_b (fl : Nat) (a0 : Int32) (a2 : Int32) (S : gm_M) (rec : Int32 → Int32 → Option (Int32)) (y1 : Int32) (y2 : Int32) : Option (Int32) :=
  if a2 < y2 then (
    some (y1)
  ) else (
    if S.1 0 0 ≤ 0 then (
      some (y1)
    ) else (
      gm_bp1 (Mo_isLuckyBut fl a0 y2 S) fun v6 =>
      gm_bp1 (show Option (Int32) from
        if v6 = 0 then (
          some (0)
        ) else (
          some (1)
        )
      ) fun x7 =>
      gm_lt (α := Int32) (y1 + x7) fun x8 =>
      gm_lt (α := Int32) (y2 + 1) fun x9 =>
      rec x8 x9
    )
  )
def Mo_manyBut_L6 (fl : Nat) (a0 : Int32) (a2 : Int32) (S : gm_M) : Nat → Int32 → Int32 → Option (Int32)
  | 0 => fun _ _ => none
  | n + 1 => Mo_manyBut_L6_b fl a0 a2 S (Mo_manyBut_L6 fl a0 a2 S n)
def Mo_manyBut (fl : Nat) (a0 : Int32) (a1 : Int32) (a2 : Int32) (S : gm_M) : Option Int32 :=
  gm_bp1 (Mo_manyBut_L6 fl a0 a2 S fl 0 a1) fun z3 =>
  some (z3)
set_option maxHeartbeats 4000000 in
set_option maxRecDepth 100000 in
theorem Mo_manyBut_c (l : Launch) (cf : gm_C) (ad : Nat → Nat) {fl : Nat}   {a0 : Int32} {a1 : Int32} {a2 : Int32} {S : gm_M} {r : Int32}  (hf : Mo_manyBut fl a0 a1 a2 S = some r) : gm_Met l yX11_manyBut cX11_manyBut 6 (some .int) 5 120 cf ad gm_sM 17 [.ref (ad 0), .int a0, .int a1, .int a2] S (some (.int r)) S := by
  refine gm_met (by decide +kernel) (Nat.le_of_ble_eq_true rfl) ?_
  intro p e s m args below meth c C hr
  have C : gm_F p s m args meth c cf ad 17 cX11_manyBut 6 RX11 := C
  refine gm_lve (lv' := [(0, .ref (ad 0)), (1, .int a0), (2, .int a1), (3, .int a2)]) rfl ?_
  unfold Mo_manyBut at hf
  refine gm_iconst (v := 0) C dX11_manyBut_0 (by decide) ?_
  refine gm_istore (lv' := [(4, .int 0), (0, .ref (ad 0)), (1, .int a0), (2, .int a1), (3, .int a2)]) C dX11_manyBut_1 (by decide) rfl ?_
  refine gm_iload_n C dX11_manyBut_3 rfl 3 rfl ?_
  refine gm_istore (lv' := [(5, .int a1), (4, .int 0), (0, .ref (ad 0)), (1, .int a0), (2, .int a1), (3, .int a2)]) C dX11_manyBut_4 (by decide) rfl ?_
  have L6 : ∀ (n : Nat) (y1 : Int32) (y2 : Int32) (z3 : Int32), Mo_manyBut_L6 fl a0 a2 S n y1 y2 = some (z3) → gm_G p l e { frames := 5, cells := 0, slots := 0, locals := 120 } s m args below meth c (MQ below (gm_Q cf ad gm_sM 17 (some (.int r)) S) args s 0 0 (gm_A ad 17)) cf ad gm_sM 17 6 S 45 [(4, .int z3)] [] → gm_G p l e { frames := 5, cells := 0, slots := 0, locals := 120 } s m args below meth c (MQ below (gm_Q cf ad gm_sM 17 (some (.int r)) S) args s 0 0 (gm_A ad 17)) cf ad gm_sM 17 6 S 6 [(0, .ref (ad 0)), (1, .int a0), (3, .int a2), (4, .int y1), (5, .int y2)] [] := by
    intro n
    induction n with
    | zero => intro y1 y2 z3 hf K; cases (show (none : Option _) = some _ from hf)
    | succ n ih =>
      intro y1 y2 z3 hf K
      have hf : Mo_manyBut_L6_b fl a0 a2 S (Mo_manyBut_L6 fl a0 a2 S n) y1 y2 = some (z3) := hf
      unfold Mo_manyBut_L6_b at hf
      refine gm_iload C dX11_manyBut_6 4 rfl ?_
      refine gm_iload_n C dX11_manyBut_8 rfl 2 rfl ?_
      refine gm_icmp_gt C 45 dX11_manyBut_9 (by decide) (fun c4 => ?_) (fun c4 => ?_)
      · have hf := gm_it _ c4 hf
        cases hf
        exact gm_lvp [3] rfl K
      · have hf := gm_if _ c4 hf
        refine gm_aload_n C dX11_manyBut_12 rfl 0 rfl ?_
        refine gm_geti C (Nat.le_of_ble_eq_true rfl) rfl kc_11 (k := 0) rfl (by decide) rfl wl_840 dX11_manyBut_13 ?_
        refine gm_if_le C 45 dX11_manyBut_16 (by decide) (fun c5 => ?_) (fun c5 => ?_)
        · have hf := gm_it _ c5 hf
          cases hf
          exact gm_lvp [3] rfl K
        · have hf := gm_if _ c5 hf
          refine gm_iload C dX11_manyBut_19 3 rfl ?_
          refine gm_aload_n C dX11_manyBut_21 rfl 0 rfl ?_
          refine gm_iload_n C dX11_manyBut_22 rfl 1 rfl ?_
          refine gm_iload C dX11_manyBut_23 4 rfl ?_
          obtain ⟨v6, ev6, hf⟩ := gm_bp1_s hf
          refine gm_callVi (As := [.int a0, .int y2]) C (Mo_isLuckyBut_c l cf ad ev6) (Nat.le_of_ble_eq_true rfl) rfl kc_11 wy_Mo_isLuckyBut rfl wl_1046 rfl ⟨(Nat.le_of_ble_eq_true rfl), (Nat.le_of_ble_eq_true rfl)⟩ rfl (Nat.le_of_ble_eq_true rfl) dX11_manyBut_25 ?_
          obtain ⟨x7, hx, hf⟩ := gm_bp1_s hf
          have key : gm_G p l e { frames := 5, cells := 0, slots := 0, locals := 120 } s m args below meth c (MQ below (gm_Q cf ad gm_sM 17 (some (.int r)) S) args s 0 0 (gm_A ad 17)) cf ad gm_sM 17 6 S 36 [(0, .ref (ad 0)), (1, .int a0), (3, .int a2), (5, .int y2)] [.int x7, .int y1] := by
            refine gm_iadd C dX11_manyBut_36 ?_
            obtain ⟨x8, ex8, hf⟩ := gm_lt_s hf
            refine gm_topi ex8 ?_
            refine gm_istore (lv' := [(4, .int x8), (0, .ref (ad 0)), (1, .int a0), (3, .int a2), (5, .int y2)]) C dX11_manyBut_37 (by decide) rfl ?_
            obtain ⟨x9, ex9, hf⟩ := gm_lt_s hf
            refine gm_iinc (v := x9) (lv' := [(5, .int x9), (4, .int x8), (0, .ref (ad 0)), (1, .int a0), (3, .int a2)]) (j := 4) C dX11_manyBut_39 rfl (by rw [ex9]; rfl) (by decide) rfl ?_
            refine gm_goto C 6 dX11_manyBut_42 (by decide) ?_
            exact gm_lvp [2, 3, 4, 1, 0] rfl (ih _ _ _ hf K)
          have hf := hx
          refine gm_if_eq C 35 dX11_manyBut_28 (by decide) (fun c10 => ?_) (fun c10 => ?_)
          · have hf := gm_it _ c10 hf
            refine gm_iconst (v := 0) C dX11_manyBut_35 (by decide) ?_
            cases hf
            exact gm_lvp [0, 1, 2, 4] rfl key
          · have hf := gm_if _ c10 hf
            refine gm_iconst (v := 1) C dX11_manyBut_31 (by decide) ?_
            refine gm_goto C 36 dX11_manyBut_32 (by decide) ?_
            cases hf
            exact gm_lvp [0, 1, 2, 4] rfl key
  obtain ⟨z3, hx, hf⟩ := gm_bp1_s hf
  refine gm_lvp [2, 3, 5, 1, 0] rfl (L6 fl _ _ _ hx ?_)
  refine gm_iload C dX11_manyBut_45 0 rfl ?_
  exact gm_iretK C hr rfl dX11_manyBut_47 hf
theorem dX11_allLucky_0 : decode cX11_allLucky 0 = .ok (.aload_n 0, 1) := by decide +kernel
theorem dX11_allLucky_1 : decode cX11_allLucky 1 = .ok (.iconst (-1), 1) := by decide +kernel
theorem dX11_allLucky_2 : decode cX11_allLucky 2 = .ok (.iconst 0, 1) := by decide +kernel
theorem dX11_allLucky_3 : decode cX11_allLucky 3 = .ok (.aload_n 0, 1) := by decide +kernel
theorem dX11_allLucky_4 : decode cX11_allLucky 4 = .ok (.getfield 79, 3) := by decide +kernel
theorem dX11_allLucky_7 : decode cX11_allLucky 7 = .ok (.invokevirtual 220, 3) := by decide +kernel
theorem dX11_allLucky_10 : decode cX11_allLucky 10 = .ok (.ireturn, 1) := by decide +kernel
def Mo_allLucky (fl : Nat) (S : gm_M) : Option Int32 :=
  gm_bp1 (Mo_manyBut fl (-1) 0 (S.1 0 1) S) fun v1 =>
  some (v1)
set_option maxHeartbeats 4000000 in
set_option maxRecDepth 100000 in
theorem Mo_allLucky_c (l : Launch) (cf : gm_C) (ad : Nat → Nat) {fl : Nat}    {S : gm_M} {r : Int32}  (hf : Mo_allLucky fl S = some r) : gm_Met l yX11_allLucky cX11_allLucky 1 (some .int) 6 145 cf ad gm_sM 17 [.ref (ad 0)] S (some (.int r)) S := by
  refine gm_met (by decide +kernel) (Nat.le_of_ble_eq_true rfl) ?_
  intro p e s m args below meth c C hr
  have C : gm_F p s m args meth c cf ad 17 cX11_allLucky 1 RX11 := C
  refine gm_lve (lv' := [(0, .ref (ad 0))]) rfl ?_
  unfold Mo_allLucky at hf
  refine gm_aload_n C dX11_allLucky_0 rfl 0 rfl ?_
  refine gm_iconst (v := (-1)) C dX11_allLucky_1 (by decide) ?_
  refine gm_iconst (v := 0) C dX11_allLucky_2 (by decide) ?_
  refine gm_aload_n C dX11_allLucky_3 rfl 0 rfl ?_
  refine gm_geti C (Nat.le_of_ble_eq_true rfl) rfl kc_11 (k := 1) rfl (by decide) rfl wl_841 dX11_allLucky_4 ?_
  obtain ⟨v1, ev1, hf⟩ := gm_bp1_s hf
  refine gm_callVi (As := [.int (-1), .int 0, .int (S.1 0 1)]) C (Mo_manyBut_c l cf ad ev1) (Nat.le_of_ble_eq_true rfl) rfl kc_11 wy_Mo_manyBut rfl wl_1042 rfl ⟨(Nat.le_of_ble_eq_true rfl), (Nat.le_of_ble_eq_true rfl)⟩ rfl (Nat.le_of_ble_eq_true rfl) dX11_allLucky_7 ?_
  exact gm_iretK C hr rfl dX11_allLucky_10 hf
theorem dX11_isLucky_0 : decode cX11_isLucky 0 = .ok (.aload_n 0, 1) := by decide +kernel
theorem dX11_isLucky_1 : decode cX11_isLucky 1 = .ok (.iconst (-1), 1) := by decide +kernel
theorem dX11_isLucky_2 : decode cX11_isLucky 2 = .ok (.iload_n 1, 1) := by decide +kernel
theorem dX11_isLucky_3 : decode cX11_isLucky 3 = .ok (.invokevirtual 217, 3) := by decide +kernel
theorem dX11_isLucky_6 : decode cX11_isLucky 6 = .ok (.ireturn, 1) := by decide +kernel
def Mo_isLucky (fl : Nat) (a0 : Int32) (S : gm_M) : Option Int32 :=
  gm_bp1 (Mo_isLuckyBut fl (-1) a0 S) fun v1 =>
  if vp_nar .boolean v1 = v1 then (some v1) else none
set_option maxHeartbeats 4000000 in
set_option maxRecDepth 100000 in
theorem Mo_isLucky_c (l : Launch) (cf : gm_C) (ad : Nat → Nat) {fl : Nat}   {a0 : Int32} {S : gm_M} {r : Int32}  (hf : Mo_isLucky fl a0 S = some r) : gm_Met l yX11_isLucky cX11_isLucky 2 (some .boolean) 5 120 cf ad gm_sM 17 [.ref (ad 0), .int a0] S (some (.int r)) S := by
  refine gm_met (by decide +kernel) (Nat.le_of_ble_eq_true rfl) ?_
  intro p e s m args below meth c C hr
  have C : gm_F p s m args meth c cf ad 17 cX11_isLucky 2 RX11 := C
  refine gm_lve (lv' := [(0, .ref (ad 0)), (1, .int a0)]) rfl ?_
  unfold Mo_isLucky at hf
  refine gm_aload_n C dX11_isLucky_0 rfl 0 rfl ?_
  refine gm_iconst (v := (-1)) C dX11_isLucky_1 (by decide) ?_
  refine gm_iload_n C dX11_isLucky_2 rfl 1 rfl ?_
  obtain ⟨v1, ev1, hf⟩ := gm_bp1_s hf
  refine gm_callVi (As := [.int (-1), .int a0]) C (Mo_isLuckyBut_c l cf ad ev1) (Nat.le_of_ble_eq_true rfl) rfl kc_11 wy_Mo_isLuckyBut rfl wl_1046 rfl ⟨(Nat.le_of_ble_eq_true rfl), (Nat.le_of_ble_eq_true rfl)⟩ rfl (Nat.le_of_ble_eq_true rfl) dX11_isLucky_3 ?_
  obtain ⟨h2, hf⟩ := gm_in _ hf
  exact gm_iretK C hr (gm_zb h2) dX11_isLucky_6 hf
theorem dX11_soon_0 : decode cX11_soon 0 = .ok (.iconst 0, 1) := by decide +kernel
theorem dX11_soon_1 : decode cX11_soon 1 = .ok (.istore_n 2, 1) := by decide +kernel
theorem dX11_soon_2 : decode cX11_soon 2 = .ok (.iload_n 2, 1) := by decide +kernel
theorem dX11_soon_3 : decode cX11_soon 3 = .ok (.aload_n 0, 1) := by decide +kernel
theorem dX11_soon_4 : decode cX11_soon 4 = .ok (.getfield 13, 3) := by decide +kernel
theorem dX11_soon_7 : decode cX11_soon 7 = .ok (.bipush 17, 2) := by decide +kernel
theorem dX11_soon_9 : decode cX11_soon 9 = .ok (.iload_n 1, 1) := by decide +kernel
theorem dX11_soon_10 : decode cX11_soon 10 = .ok (.iadd, 1) := by decide +kernel
theorem dX11_soon_11 : decode cX11_soon 11 = .ok (.iaload, 1) := by decide +kernel
theorem dX11_soon_12 : decode cX11_soon 12 = .ok (.if_icmp .ge 36, 3) := by decide +kernel
theorem dX11_soon_15 : decode cX11_soon 15 = .ok (.aload_n 0, 1) := by decide +kernel
theorem dX11_soon_16 : decode cX11_soon 16 = .ok (.aload_n 0, 1) := by decide +kernel
theorem dX11_soon_17 : decode cX11_soon 17 = .ok (.getfield 13, 3) := by decide +kernel
theorem dX11_soon_20 : decode cX11_soon 20 = .ok (.bipush 13, 2) := by decide +kernel
theorem dX11_soon_22 : decode cX11_soon 22 = .ok (.iload_n 1, 1) := by decide +kernel
theorem dX11_soon_23 : decode cX11_soon 23 = .ok (.iadd, 1) := by decide +kernel
theorem dX11_soon_24 : decode cX11_soon 24 = .ok (.iaload, 1) := by decide +kernel
theorem dX11_soon_25 : decode cX11_soon 25 = .ok (.iload_n 2, 1) := by decide +kernel
theorem dX11_soon_26 : decode cX11_soon 26 = .ok (.iadd, 1) := by decide +kernel
theorem dX11_soon_27 : decode cX11_soon 27 = .ok (.aload_n 0, 1) := by decide +kernel
theorem dX11_soon_28 : decode cX11_soon 28 = .ok (.getfield 79, 3) := by decide +kernel
theorem dX11_soon_31 : decode cX11_soon 31 = .ok (.iconst 1, 1) := by decide +kernel
theorem dX11_soon_32 : decode cX11_soon 32 = .ok (.iadd, 1) := by decide +kernel
theorem dX11_soon_33 : decode cX11_soon 33 = .ok (.irem, 1) := by decide +kernel
theorem dX11_soon_34 : decode cX11_soon 34 = .ok (.invokevirtual 224, 3) := by decide +kernel
theorem dX11_soon_37 : decode cX11_soon 37 = .ok (.ifCond .eq 5, 3) := by decide +kernel
theorem dX11_soon_40 : decode cX11_soon 40 = .ok (.iload_n 2, 1) := by decide +kernel
theorem dX11_soon_41 : decode cX11_soon 41 = .ok (.ireturn, 1) := by decide +kernel
theorem dX11_soon_42 : decode cX11_soon 42 = .ok (.iinc 2 1, 3) := by decide +kernel
theorem dX11_soon_45 : decode cX11_soon 45 = .ok (.goto (-43), 3) := by decide +kernel
theorem dX11_soon_48 : decode cX11_soon 48 = .ok (.iconst (-1), 1) := by decide +kernel
theorem dX11_soon_49 : decode cX11_soon 49 = .ok (.ireturn, 1) := by decide +kernel
def Mo_soon_L2_b (fl : Nat) (a0 : Int32) (S : gm_M) (rec : Int32 → Option Int32) (y1 : Int32) : Option Int32 :=
  gm_ck (17 + a0) 42 <|
  if S.1 2 (17 + a0).toNatClampNeg ≤ y1 then (
    some ((-1))
  ) else (
    gm_ck (13 + a0) 42 <|
    if (S.1 0 1) + 1 = 0 then none else
    gm_bp1 (Mo_isLucky fl (gm_rm ((S.1 2 (13 + a0).toNatClampNeg) + y1) ((S.1 0 1) + 1)) S) fun v6 =>
    if v6 = 0 then (
      gm_lt (α := Int32) (y1 + 1) fun x8 =>
      rec x8
    ) else (
      some (y1)
    )
  )
def Mo_soon_L2 (fl : Nat) (a0 : Int32) (S : gm_M) : Nat → Int32 → Option Int32
  | 0 => fun _ => none
  | n + 1 => Mo_soon_L2_b fl a0 S (Mo_soon_L2 fl a0 S n)
def Mo_soon (fl : Nat) (a0 : Int32) (S : gm_M) : Option Int32 :=
  Mo_soon_L2 fl a0 S fl 0
set_option maxHeartbeats 4000000 in
set_option maxRecDepth 100000 in
theorem Mo_soon_c (l : Launch) (cf : gm_C) (ad : Nat → Nat) {fl : Nat}   {a0 : Int32} {S : gm_M} {r : Int32}  (hf : Mo_soon fl a0 S = some r) : gm_Met l yX11_soon cX11_soon 3 (some .int) 6 141 cf ad gm_sM 17 [.ref (ad 0), .int a0] S (some (.int r)) S := by
  refine gm_met (by decide +kernel) (Nat.le_of_ble_eq_true rfl) ?_
  intro p e s m args below meth c C hr
  have C : gm_F p s m args meth c cf ad 17 cX11_soon 3 RX11 := C
  refine gm_lve (lv' := [(0, .ref (ad 0)), (1, .int a0)]) rfl ?_
  unfold Mo_soon at hf
  refine gm_iconst (v := 0) C dX11_soon_0 (by decide) ?_
  refine gm_istore_n (lv' := [(2, .int 0), (0, .ref (ad 0)), (1, .int a0)]) C dX11_soon_1 rfl (by decide) rfl ?_
  have L2 : ∀ (n : Nat) (y1 : Int32), Mo_soon_L2 fl a0 S n y1 = some r → gm_G p l e { frames := 6, cells := 0, slots := 0, locals := 141 } s m args below meth c (MQ below (gm_Q cf ad gm_sM 17 (some (.int r)) S) args s 0 0 (gm_A ad 17)) cf ad gm_sM 17 3 S 2 [(0, .ref (ad 0)), (1, .int a0), (2, .int y1)] [] := by
    intro n
    induction n with
    | zero => intro y1 hf; cases (show (none : Option _) = some _ from hf)
    | succ n ih =>
      intro y1 hf
      have hf : Mo_soon_L2_b fl a0 S (Mo_soon_L2 fl a0 S n) y1 = some r := hf
      unfold Mo_soon_L2_b at hf
      refine gm_iload_n C dX11_soon_2 rfl 2 rfl ?_
      refine gm_aload_n C dX11_soon_3 rfl 0 rfl ?_
      refine gm_getr (j := 2) (u := 2) C (Nat.le_of_ble_eq_true rfl) rfl kc_11 (k := 6) rfl (by decide) rfl rfl wl_846 dX11_soon_4 ?_
      refine gm_bipush (v := 17) C dX11_soon_7 (by decide) ?_
      refine gm_iload_n C dX11_soon_9 rfl 1 rfl ?_
      refine gm_iadd C dX11_soon_10 ?_
      obtain ⟨h2, hf⟩ := gm_ck_s hf
      refine gm_iald C (Nat.le_of_ble_eq_true rfl) rfl rfl h2 dX11_soon_11 ?_
      refine gm_icmp_ge C 48 dX11_soon_12 (by decide) (fun c3 => ?_) (fun c3 => ?_)
      · have hf := gm_it _ c3 hf
        refine gm_iconst (v := (-1)) C dX11_soon_48 (by decide) ?_
        exact gm_iretK C hr rfl dX11_soon_49 hf
      · have hf := gm_if _ c3 hf
        refine gm_aload_n C dX11_soon_15 rfl 0 rfl ?_
        refine gm_aload_n C dX11_soon_16 rfl 0 rfl ?_
        refine gm_getr (j := 2) (u := 2) C (Nat.le_of_ble_eq_true rfl) rfl kc_11 (k := 6) rfl (by decide) rfl rfl wl_846 dX11_soon_17 ?_
        refine gm_bipush (v := 13) C dX11_soon_20 (by decide) ?_
        refine gm_iload_n C dX11_soon_22 rfl 1 rfl ?_
        refine gm_iadd C dX11_soon_23 ?_
        obtain ⟨h4, hf⟩ := gm_ck_s hf
        refine gm_iald C (Nat.le_of_ble_eq_true rfl) rfl rfl h4 dX11_soon_24 ?_
        refine gm_iload_n C dX11_soon_25 rfl 2 rfl ?_
        refine gm_iadd C dX11_soon_26 ?_
        refine gm_aload_n C dX11_soon_27 rfl 0 rfl ?_
        refine gm_geti C (Nat.le_of_ble_eq_true rfl) rfl kc_11 (k := 1) rfl (by decide) rfl wl_841 dX11_soon_28 ?_
        refine gm_iconst (v := 1) C dX11_soon_31 (by decide) ?_
        refine gm_iadd C dX11_soon_32 ?_
        obtain ⟨h5, hf⟩ := gm_iz _ hf
        refine gm_irem C dX11_soon_33 h5 ?_
        obtain ⟨v6, ev6, hf⟩ := gm_bp1_s hf
        refine gm_callVi (As := [.int (gm_rm ((S.1 2 (13 + a0).toNatClampNeg) + y1) ((S.1 0 1) + 1))]) C (Mo_isLucky_c l cf ad ev6) (Nat.le_of_ble_eq_true rfl) rfl kc_11 wy_Mo_isLucky rfl wl_1086 rfl ⟨(Nat.le_of_ble_eq_true rfl), (Nat.le_of_ble_eq_true rfl)⟩ rfl (Nat.le_of_ble_eq_true rfl) dX11_soon_34 ?_
        refine gm_if_eq C 42 dX11_soon_37 (by decide) (fun c7 => ?_) (fun c7 => ?_)
        · have hf := gm_it _ c7 hf
          obtain ⟨x8, ex8, hf⟩ := gm_lt_s hf
          refine gm_iinc (v := x8) (lv' := [(2, .int x8), (0, .ref (ad 0)), (1, .int a0)]) (j := 2) C dX11_soon_42 rfl (by rw [ex8]; rfl) (by decide) rfl ?_
          refine gm_goto C 2 dX11_soon_45 (by decide) ?_
          exact gm_lvp [1, 2, 0] rfl (ih _ hf)
        · have hf := gm_if _ c7 hf
          refine gm_iload_n C dX11_soon_40 rfl 2 rfl ?_
          exact gm_iretK C hr rfl dX11_soon_41 hf
  exact gm_lvp [1, 2, 0] rfl (L2 fl _ hf)
