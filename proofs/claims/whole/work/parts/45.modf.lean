theorem dX11_bestRoll_0 : decode cX11_bestRoll 0 = .ok (.iconst (-1), 1) := by decide +kernel
theorem dX11_bestRoll_1 : decode cX11_bestRoll 1 = .ok (.istore_n 1, 1) := by decide +kernel
theorem dX11_bestRoll_2 : decode cX11_bestRoll 2 = .ok (.sipush 1000, 3) := by decide +kernel
theorem dX11_bestRoll_5 : decode cX11_bestRoll 5 = .ok (.istore_n 2, 1) := by decide +kernel
theorem dX11_bestRoll_6 : decode cX11_bestRoll 6 = .ok (.iconst 0, 1) := by decide +kernel
theorem dX11_bestRoll_7 : decode cX11_bestRoll 7 = .ok (.istore_n 3, 1) := by decide +kernel
theorem dX11_bestRoll_8 : decode cX11_bestRoll 8 = .ok (.iload_n 3, 1) := by decide +kernel
theorem dX11_bestRoll_9 : decode cX11_bestRoll 9 = .ok (.aload_n 0, 1) := by decide +kernel
theorem dX11_bestRoll_10 : decode cX11_bestRoll 10 = .ok (.getfield 73, 3) := by decide +kernel
theorem dX11_bestRoll_13 : decode cX11_bestRoll 13 = .ok (.if_icmp .ge 57, 3) := by decide +kernel
theorem dX11_bestRoll_16 : decode cX11_bestRoll 16 = .ok (.aload_n 0, 1) := by decide +kernel
theorem dX11_bestRoll_17 : decode cX11_bestRoll 17 = .ok (.iload_n 3, 1) := by decide +kernel
theorem dX11_bestRoll_18 : decode cX11_bestRoll 18 = .ok (.invokevirtual 227, 3) := by decide +kernel
theorem dX11_bestRoll_21 : decode cX11_bestRoll 21 = .ok (.istore 4, 2) := by decide +kernel
theorem dX11_bestRoll_23 : decode cX11_bestRoll 23 = .ok (.iload 4, 2) := by decide +kernel
theorem dX11_bestRoll_25 : decode cX11_bestRoll 25 = .ok (.ifCond .lt 13, 3) := by decide +kernel
theorem dX11_bestRoll_28 : decode cX11_bestRoll 28 = .ok (.iload 4, 2) := by decide +kernel
theorem dX11_bestRoll_30 : decode cX11_bestRoll 30 = .ok (.iload_n 2, 1) := by decide +kernel
theorem dX11_bestRoll_31 : decode cX11_bestRoll 31 = .ok (.if_icmp .ge 7, 3) := by decide +kernel
theorem dX11_bestRoll_34 : decode cX11_bestRoll 34 = .ok (.iconst 1, 1) := by decide +kernel
theorem dX11_bestRoll_35 : decode cX11_bestRoll 35 = .ok (.goto 4, 3) := by decide +kernel
theorem dX11_bestRoll_38 : decode cX11_bestRoll 38 = .ok (.iconst 0, 1) := by decide +kernel
theorem dX11_bestRoll_39 : decode cX11_bestRoll 39 = .ok (.istore 5, 2) := by decide +kernel
theorem dX11_bestRoll_41 : decode cX11_bestRoll 41 = .ok (.iload 5, 2) := by decide +kernel
theorem dX11_bestRoll_43 : decode cX11_bestRoll 43 = .ok (.ifCond .eq 7, 3) := by decide +kernel
theorem dX11_bestRoll_46 : decode cX11_bestRoll 46 = .ok (.iload_n 3, 1) := by decide +kernel
theorem dX11_bestRoll_47 : decode cX11_bestRoll 47 = .ok (.goto 4, 3) := by decide +kernel
theorem dX11_bestRoll_50 : decode cX11_bestRoll 50 = .ok (.iload_n 1, 1) := by decide +kernel
theorem dX11_bestRoll_51 : decode cX11_bestRoll 51 = .ok (.istore_n 1, 1) := by decide +kernel
theorem dX11_bestRoll_52 : decode cX11_bestRoll 52 = .ok (.iload 5, 2) := by decide +kernel
theorem dX11_bestRoll_54 : decode cX11_bestRoll 54 = .ok (.ifCond .eq 8, 3) := by decide +kernel
theorem dX11_bestRoll_57 : decode cX11_bestRoll 57 = .ok (.iload 4, 2) := by decide +kernel
theorem dX11_bestRoll_59 : decode cX11_bestRoll 59 = .ok (.goto 4, 3) := by decide +kernel
theorem dX11_bestRoll_62 : decode cX11_bestRoll 62 = .ok (.iload_n 2, 1) := by decide +kernel
theorem dX11_bestRoll_63 : decode cX11_bestRoll 63 = .ok (.istore_n 2, 1) := by decide +kernel
theorem dX11_bestRoll_64 : decode cX11_bestRoll 64 = .ok (.iinc 3 1, 3) := by decide +kernel
theorem dX11_bestRoll_67 : decode cX11_bestRoll 67 = .ok (.goto (-59), 3) := by decide +kernel
theorem dX11_bestRoll_70 : decode cX11_bestRoll 70 = .ok (.iload_n 1, 1) := by decide +kernel
theorem dX11_bestRoll_71 : decode cX11_bestRoll 71 = .ok (.ireturn, 1) := by decide +kernel
def Mo_bestRoll_L8_b (fl : Nat) (S : gm_M) (rec : Int32 → Int32 → Int32 → Option (Int32)) (y1 : Int32) (y2 : Int32) (y3 : Int32) : Option (Int32) :=
  if S.1 0 3 ≤ y3 then (
    some (y1)
  ) else (
    gm_bp1 (Mo_soon fl y3 S) fun v6 =>
    gm_bp1 (show Option (Int32) from
      if v6 < 0 then (
        some (0)
      ) else (
        if y2 ≤ v6 then (
          some (0)
        ) else (
          some (1)
        )
      )
    ) fun x7 =>
    gm_bp1 (show Option (Int32) from
      if x7 = 0 then (
        some (y1)
      ) else (
        some (y3)
      )
    ) fun x8 =>
    gm_bp1 (show Option (Int32) from
      if x7 = 0 then (
        some (y2)
      ) else (
        some (v6)
      )
    ) fun x9 =>
    gm_lt (α := Int32) (y3 + 1) fun x10 =>
    rec x8 x9 x10
  )
def Mo_bestRoll_L8 (fl : Nat) (S : gm_M) : Nat → Int32 → Int32 → Int32 → Option (Int32)
  | 0 => fun _ _ _ => none
  | n + 1 => Mo_bestRoll_L8_b fl S (Mo_bestRoll_L8 fl S n)
def Mo_bestRoll (fl : Nat) (S : gm_M) : Option Int32 :=
  gm_bp1 (Mo_bestRoll_L8 fl S fl (-1) 1000 0) fun z4 =>
  some (z4)
set_option maxHeartbeats 4000000 in
set_option maxRecDepth 100000 in
theorem Mo_bestRoll_c (l : Launch) (cf : gm_C) (ad : Nat → Nat) {fl : Nat}    {S : gm_M} {r : Int32}  (hf : Mo_bestRoll fl S = some r) : gm_Met l yX11_bestRoll cX11_bestRoll 6 (some .int) 7 163 cf ad gm_sM 17 [.ref (ad 0)] S (some (.int r)) S := by
  refine gm_met (by decide +kernel) (Nat.le_of_ble_eq_true rfl) ?_
  intro p e s m args below meth c C hr
  have C : gm_F p s m args meth c cf ad 17 cX11_bestRoll 6 RX11 := C
  refine gm_lve (lv' := [(0, .ref (ad 0))]) rfl ?_
  unfold Mo_bestRoll at hf
  refine gm_iconst (v := (-1)) C dX11_bestRoll_0 (by decide) ?_
  refine gm_istore_n (lv' := [(1, .int (-1)), (0, .ref (ad 0))]) C dX11_bestRoll_1 rfl (by decide) rfl ?_
  refine gm_sipush (v := 1000) C dX11_bestRoll_2 (by decide) ?_
  refine gm_istore_n (lv' := [(2, .int 1000), (1, .int (-1)), (0, .ref (ad 0))]) C dX11_bestRoll_5 rfl (by decide) rfl ?_
  refine gm_iconst (v := 0) C dX11_bestRoll_6 (by decide) ?_
  refine gm_istore_n (lv' := [(3, .int 0), (2, .int 1000), (1, .int (-1)), (0, .ref (ad 0))]) C dX11_bestRoll_7 rfl (by decide) rfl ?_
  have L8 : ∀ (n : Nat) (y1 : Int32) (y2 : Int32) (y3 : Int32) (z4 : Int32), Mo_bestRoll_L8 fl S n y1 y2 y3 = some (z4) → gm_G p l e { frames := 7, cells := 0, slots := 0, locals := 163 } s m args below meth c (MQ below (gm_Q cf ad gm_sM 17 (some (.int r)) S) args s 0 0 (gm_A ad 17)) cf ad gm_sM 17 6 S 70 [(1, .int z4)] [] → gm_G p l e { frames := 7, cells := 0, slots := 0, locals := 163 } s m args below meth c (MQ below (gm_Q cf ad gm_sM 17 (some (.int r)) S) args s 0 0 (gm_A ad 17)) cf ad gm_sM 17 6 S 8 [(0, .ref (ad 0)), (1, .int y1), (2, .int y2), (3, .int y3)] [] := by
    intro n
    induction n with
    | zero => intro y1 y2 y3 z4 hf K; cases (show (none : Option _) = some _ from hf)
    | succ n ih =>
      intro y1 y2 y3 z4 hf K
      have hf : Mo_bestRoll_L8_b fl S (Mo_bestRoll_L8 fl S n) y1 y2 y3 = some (z4) := hf
      unfold Mo_bestRoll_L8_b at hf
      refine gm_iload_n C dX11_bestRoll_8 rfl 3 rfl ?_
      refine gm_aload_n C dX11_bestRoll_9 rfl 0 rfl ?_
      refine gm_geti C (Nat.le_of_ble_eq_true rfl) rfl kc_11 (k := 3) rfl (by decide) rfl wl_843 dX11_bestRoll_10 ?_
      refine gm_icmp_ge C 70 dX11_bestRoll_13 (by decide) (fun c5 => ?_) (fun c5 => ?_)
      · have hf := gm_it _ c5 hf
        cases hf
        exact gm_lvp [1] rfl K
      · have hf := gm_if _ c5 hf
        refine gm_aload_n C dX11_bestRoll_16 rfl 0 rfl ?_
        refine gm_iload_n C dX11_bestRoll_17 rfl 3 rfl ?_
        obtain ⟨v6, ev6, hf⟩ := gm_bp1_s hf
        refine gm_callVi (As := [.int y3]) C (Mo_soon_c l cf ad ev6) (Nat.le_of_ble_eq_true rfl) rfl kc_11 wy_Mo_soon rfl wl_1082 rfl ⟨(Nat.le_of_ble_eq_true rfl), (Nat.le_of_ble_eq_true rfl)⟩ rfl (Nat.le_of_ble_eq_true rfl) dX11_bestRoll_18 ?_
        refine gm_istore (lv' := [(4, .int v6), (0, .ref (ad 0)), (1, .int y1), (2, .int y2), (3, .int y3)]) C dX11_bestRoll_21 (by decide) rfl ?_
        refine gm_iload C dX11_bestRoll_23 0 rfl ?_
        obtain ⟨x7, hx, hf⟩ := gm_bp1_s hf
        have key : gm_G p l e { frames := 7, cells := 0, slots := 0, locals := 163 } s m args below meth c (MQ below (gm_Q cf ad gm_sM 17 (some (.int r)) S) args s 0 0 (gm_A ad 17)) cf ad gm_sM 17 6 S 39 [(0, .ref (ad 0)), (1, .int y1), (2, .int y2), (3, .int y3), (4, .int v6)] [.int x7] := by
          refine gm_istore (lv' := [(5, .int x7), (0, .ref (ad 0)), (1, .int y1), (2, .int y2), (3, .int y3), (4, .int v6)]) C dX11_bestRoll_39 (by decide) rfl ?_
          refine gm_iload C dX11_bestRoll_41 0 rfl ?_
          obtain ⟨x8, hx, hf⟩ := gm_bp1_s hf
          have key : gm_G p l e { frames := 7, cells := 0, slots := 0, locals := 163 } s m args below meth c (MQ below (gm_Q cf ad gm_sM 17 (some (.int r)) S) args s 0 0 (gm_A ad 17)) cf ad gm_sM 17 6 S 51 [(0, .ref (ad 0)), (2, .int y2), (3, .int y3), (4, .int v6), (5, .int x7)] [.int x8] := by
            refine gm_istore_n (lv' := [(1, .int x8), (0, .ref (ad 0)), (2, .int y2), (3, .int y3), (4, .int v6), (5, .int x7)]) C dX11_bestRoll_51 rfl (by decide) rfl ?_
            refine gm_iload C dX11_bestRoll_52 5 rfl ?_
            obtain ⟨x9, hx, hf⟩ := gm_bp1_s hf
            have key : gm_G p l e { frames := 7, cells := 0, slots := 0, locals := 163 } s m args below meth c (MQ below (gm_Q cf ad gm_sM 17 (some (.int r)) S) args s 0 0 (gm_A ad 17)) cf ad gm_sM 17 6 S 63 [(0, .ref (ad 0)), (1, .int x8), (3, .int y3)] [.int x9] := by
              refine gm_istore_n (lv' := [(2, .int x9), (0, .ref (ad 0)), (1, .int x8), (3, .int y3)]) C dX11_bestRoll_63 rfl (by decide) rfl ?_
              obtain ⟨x10, ex10, hf⟩ := gm_lt_s hf
              refine gm_iinc (v := x10) (lv' := [(3, .int x10), (2, .int x9), (0, .ref (ad 0)), (1, .int x8)]) (j := 3) C dX11_bestRoll_64 rfl (by rw [ex10]; rfl) (by decide) rfl ?_
              refine gm_goto C 8 dX11_bestRoll_67 (by decide) ?_
              exact gm_lvp [2, 3, 1, 0] rfl (ih _ _ _ _ hf K)
            have hf := hx
            refine gm_if_eq C 62 dX11_bestRoll_54 (by decide) (fun c11 => ?_) (fun c11 => ?_)
            · have hf := gm_it _ c11 hf
              refine gm_iload_n C dX11_bestRoll_62 rfl 2 rfl ?_
              cases hf
              exact gm_lvp [1, 0, 3] rfl key
            · have hf := gm_if _ c11 hf
              refine gm_iload C dX11_bestRoll_57 4 rfl ?_
              refine gm_goto C 63 dX11_bestRoll_59 (by decide) ?_
              cases hf
              exact gm_lvp [1, 0, 3] rfl key
          have hf := hx
          refine gm_if_eq C 50 dX11_bestRoll_43 (by decide) (fun c12 => ?_) (fun c12 => ?_)
          · have hf := gm_it _ c12 hf
            refine gm_iload_n C dX11_bestRoll_50 rfl 2 rfl ?_
            cases hf
            exact gm_lvp [1, 3, 4, 5, 0] rfl key
          · have hf := gm_if _ c12 hf
            refine gm_iload_n C dX11_bestRoll_46 rfl 4 rfl ?_
            refine gm_goto C 51 dX11_bestRoll_47 (by decide) ?_
            cases hf
            exact gm_lvp [1, 3, 4, 5, 0] rfl key
        have hf := hx
        refine gm_if_lt C 38 dX11_bestRoll_25 (by decide) (fun c13 => ?_) (fun c13 => ?_)
        · have hf := gm_it _ c13 hf
          refine gm_iconst (v := 0) C dX11_bestRoll_38 (by decide) ?_
          cases hf
          exact gm_lvp [1, 2, 3, 4, 0] rfl key
        · have hf := gm_if _ c13 hf
          refine gm_iload C dX11_bestRoll_28 0 rfl ?_
          refine gm_iload_n C dX11_bestRoll_30 rfl 3 rfl ?_
          refine gm_icmp_ge C 38 dX11_bestRoll_31 (by decide) (fun c14 => ?_) (fun c14 => ?_)
          · have hf := gm_it _ c14 hf
            refine gm_iconst (v := 0) C dX11_bestRoll_38 (by decide) ?_
            cases hf
            exact gm_lvp [1, 2, 3, 4, 0] rfl key
          · have hf := gm_if _ c14 hf
            refine gm_iconst (v := 1) C dX11_bestRoll_34 (by decide) ?_
            refine gm_goto C 39 dX11_bestRoll_35 (by decide) ?_
            cases hf
            exact gm_lvp [1, 2, 3, 4, 0] rfl key
  obtain ⟨z4, hx, hf⟩ := gm_bp1_s hf
  refine gm_lvp [3, 2, 1, 0] rfl (L8 fl _ _ _ _ hx ?_)
  refine gm_iload_n C dX11_bestRoll_70 rfl 0 rfl ?_
  exact gm_iretK C hr rfl dX11_bestRoll_71 hf
theorem dX11_luckiest_0 : decode cX11_luckiest 0 = .ok (.iconst (-1), 1) := by decide +kernel
theorem dX11_luckiest_1 : decode cX11_luckiest 1 = .ok (.istore_n 1, 1) := by decide +kernel
theorem dX11_luckiest_2 : decode cX11_luckiest 2 = .ok (.iconst (-1), 1) := by decide +kernel
theorem dX11_luckiest_3 : decode cX11_luckiest 3 = .ok (.istore_n 2, 1) := by decide +kernel
theorem dX11_luckiest_4 : decode cX11_luckiest 4 = .ok (.iconst 0, 1) := by decide +kernel
theorem dX11_luckiest_5 : decode cX11_luckiest 5 = .ok (.istore_n 3, 1) := by decide +kernel
theorem dX11_luckiest_6 : decode cX11_luckiest 6 = .ok (.iload_n 3, 1) := by decide +kernel
theorem dX11_luckiest_7 : decode cX11_luckiest 7 = .ok (.aload_n 0, 1) := by decide +kernel
theorem dX11_luckiest_8 : decode cX11_luckiest 8 = .ok (.getfield 76, 3) := by decide +kernel
theorem dX11_luckiest_11 : decode cX11_luckiest 11 = .ok (.if_icmp .ge 55, 3) := by decide +kernel
theorem dX11_luckiest_14 : decode cX11_luckiest 14 = .ok (.aload_n 0, 1) := by decide +kernel
theorem dX11_luckiest_15 : decode cX11_luckiest 15 = .ok (.getfield 13, 3) := by decide +kernel
theorem dX11_luckiest_18 : decode cX11_luckiest 18 = .ok (.bipush 26, 2) := by decide +kernel
theorem dX11_luckiest_20 : decode cX11_luckiest 20 = .ok (.iload_n 3, 1) := by decide +kernel
theorem dX11_luckiest_21 : decode cX11_luckiest 21 = .ok (.iadd, 1) := by decide +kernel
theorem dX11_luckiest_22 : decode cX11_luckiest 22 = .ok (.iaload, 1) := by decide +kernel
theorem dX11_luckiest_23 : decode cX11_luckiest 23 = .ok (.aload_n 0, 1) := by decide +kernel
theorem dX11_luckiest_24 : decode cX11_luckiest 24 = .ok (.getfield 13, 3) := by decide +kernel
theorem dX11_luckiest_27 : decode cX11_luckiest 27 = .ok (.bipush 31, 2) := by decide +kernel
theorem dX11_luckiest_29 : decode cX11_luckiest 29 = .ok (.iload_n 3, 1) := by decide +kernel
theorem dX11_luckiest_30 : decode cX11_luckiest 30 = .ok (.iadd, 1) := by decide +kernel
theorem dX11_luckiest_31 : decode cX11_luckiest 31 = .ok (.iaload, 1) := by decide +kernel
theorem dX11_luckiest_32 : decode cX11_luckiest 32 = .ok (.iadd, 1) := by decide +kernel
theorem dX11_luckiest_33 : decode cX11_luckiest 33 = .ok (.istore 4, 2) := by decide +kernel
theorem dX11_luckiest_35 : decode cX11_luckiest 35 = .ok (.iload 4, 2) := by decide +kernel
theorem dX11_luckiest_37 : decode cX11_luckiest 37 = .ok (.iload_n 2, 1) := by decide +kernel
theorem dX11_luckiest_38 : decode cX11_luckiest 38 = .ok (.if_icmp .le 7, 3) := by decide +kernel
theorem dX11_luckiest_41 : decode cX11_luckiest 41 = .ok (.iload_n 3, 1) := by decide +kernel
theorem dX11_luckiest_42 : decode cX11_luckiest 42 = .ok (.goto 4, 3) := by decide +kernel
theorem dX11_luckiest_45 : decode cX11_luckiest 45 = .ok (.iload_n 1, 1) := by decide +kernel
theorem dX11_luckiest_46 : decode cX11_luckiest 46 = .ok (.istore_n 1, 1) := by decide +kernel
theorem dX11_luckiest_47 : decode cX11_luckiest 47 = .ok (.iload 4, 2) := by decide +kernel
theorem dX11_luckiest_49 : decode cX11_luckiest 49 = .ok (.iload_n 2, 1) := by decide +kernel
theorem dX11_luckiest_50 : decode cX11_luckiest 50 = .ok (.if_icmp .le 8, 3) := by decide +kernel
theorem dX11_luckiest_53 : decode cX11_luckiest 53 = .ok (.iload 4, 2) := by decide +kernel
theorem dX11_luckiest_55 : decode cX11_luckiest 55 = .ok (.goto 4, 3) := by decide +kernel
theorem dX11_luckiest_58 : decode cX11_luckiest 58 = .ok (.iload_n 2, 1) := by decide +kernel
theorem dX11_luckiest_59 : decode cX11_luckiest 59 = .ok (.istore_n 2, 1) := by decide +kernel
theorem dX11_luckiest_60 : decode cX11_luckiest 60 = .ok (.iinc 3 1, 3) := by decide +kernel
theorem dX11_luckiest_63 : decode cX11_luckiest 63 = .ok (.goto (-57), 3) := by decide +kernel
theorem dX11_luckiest_66 : decode cX11_luckiest 66 = .ok (.iload_n 1, 1) := by decide +kernel
theorem dX11_luckiest_67 : decode cX11_luckiest 67 = .ok (.ireturn, 1) := by decide +kernel
def Mo_luckiest_L6_b (S : gm_M) (rec : Int32 → Int32 → Int32 → Option (Int32)) (y1 : Int32) (y2 : Int32) (y3 : Int32) : Option (Int32) :=
  if S.1 0 4 ≤ y3 then (
    some (y1)
  ) else (
    gm_ck (26 + y3) 42 <|
    gm_ck (31 + y3) 42 <|
    gm_lt (α := Int32) ((S.1 2 (26 + y3).toNatClampNeg) + (S.1 2 (31 + y3).toNatClampNeg)) fun x8 =>
    gm_bp1 (show Option (Int32) from
      if x8 ≤ y2 then (
        some (y1)
      ) else (
        some (y3)
      )
    ) fun x9 =>
    gm_bp1 (show Option (Int32) from
      if x8 ≤ y2 then (
        some (y2)
      ) else (
        some (x8)
      )
    ) fun x10 =>
    gm_lt (α := Int32) (y3 + 1) fun x11 =>
    rec x9 x10 x11
  )
def Mo_luckiest_L6 (S : gm_M) : Nat → Int32 → Int32 → Int32 → Option (Int32)
  | 0 => fun _ _ _ => none
  | n + 1 => Mo_luckiest_L6_b S (Mo_luckiest_L6 S n)
def Mo_luckiest (fl : Nat) (S : gm_M) : Option Int32 :=
  gm_bp1 (Mo_luckiest_L6 S fl (-1) (-1) 0) fun z4 =>
  some (z4)
set_option maxHeartbeats 4000000 in
set_option maxRecDepth 100000 in
theorem Mo_luckiest_c (l : Launch) (cf : gm_C) (ad : Nat → Nat) {fl : Nat}    {S : gm_M} {r : Int32}  (hf : Mo_luckiest fl S = some r) : gm_Met l yX11_luckiest cX11_luckiest 5 (some .int) 0 0 cf ad gm_sM 17 [.ref (ad 0)] S (some (.int r)) S := by
  refine gm_met (by decide +kernel) (Nat.le_of_ble_eq_true rfl) ?_
  intro p e s m args below meth c C hr
  have C : gm_F p s m args meth c cf ad 17 cX11_luckiest 5 RX11 := C
  refine gm_lve (lv' := [(0, .ref (ad 0))]) rfl ?_
  unfold Mo_luckiest at hf
  refine gm_iconst (v := (-1)) C dX11_luckiest_0 (by decide) ?_
  refine gm_istore_n (lv' := [(1, .int (-1)), (0, .ref (ad 0))]) C dX11_luckiest_1 rfl (by decide) rfl ?_
  refine gm_iconst (v := (-1)) C dX11_luckiest_2 (by decide) ?_
  refine gm_istore_n (lv' := [(2, .int (-1)), (1, .int (-1)), (0, .ref (ad 0))]) C dX11_luckiest_3 rfl (by decide) rfl ?_
  refine gm_iconst (v := 0) C dX11_luckiest_4 (by decide) ?_
  refine gm_istore_n (lv' := [(3, .int 0), (2, .int (-1)), (1, .int (-1)), (0, .ref (ad 0))]) C dX11_luckiest_5 rfl (by decide) rfl ?_
  have L6 : ∀ (n : Nat) (y1 : Int32) (y2 : Int32) (y3 : Int32) (z4 : Int32), Mo_luckiest_L6 S n y1 y2 y3 = some (z4) → gm_G p l e { frames := 0, cells := 0, slots := 0, locals := 0 } s m args below meth c (MQ below (gm_Q cf ad gm_sM 17 (some (.int r)) S) args s 0 0 (gm_A ad 17)) cf ad gm_sM 17 5 S 66 [(1, .int z4)] [] → gm_G p l e { frames := 0, cells := 0, slots := 0, locals := 0 } s m args below meth c (MQ below (gm_Q cf ad gm_sM 17 (some (.int r)) S) args s 0 0 (gm_A ad 17)) cf ad gm_sM 17 5 S 6 [(0, .ref (ad 0)), (1, .int y1), (2, .int y2), (3, .int y3)] [] := by
    intro n
    induction n with
    | zero => intro y1 y2 y3 z4 hf K; cases (show (none : Option _) = some _ from hf)
    | succ n ih =>
      intro y1 y2 y3 z4 hf K
      have hf : Mo_luckiest_L6_b S (Mo_luckiest_L6 S n) y1 y2 y3 = some (z4) := hf
      unfold Mo_luckiest_L6_b at hf
      refine gm_iload_n C dX11_luckiest_6 rfl 3 rfl ?_
      refine gm_aload_n C dX11_luckiest_7 rfl 0 rfl ?_
      refine gm_geti C (Nat.le_of_ble_eq_true rfl) rfl kc_11 (k := 4) rfl (by decide) rfl wl_844 dX11_luckiest_8 ?_
      refine gm_icmp_ge C 66 dX11_luckiest_11 (by decide) (fun c5 => ?_) (fun c5 => ?_)
      · have hf := gm_it _ c5 hf
        cases hf
        exact gm_lvp [1] rfl K
      · have hf := gm_if _ c5 hf
        refine gm_aload_n C dX11_luckiest_14 rfl 0 rfl ?_
        refine gm_getr (j := 2) (u := 2) C (Nat.le_of_ble_eq_true rfl) rfl kc_11 (k := 6) rfl (by decide) rfl rfl wl_846 dX11_luckiest_15 ?_
        refine gm_bipush (v := 26) C dX11_luckiest_18 (by decide) ?_
        refine gm_iload_n C dX11_luckiest_20 rfl 3 rfl ?_
        refine gm_iadd C dX11_luckiest_21 ?_
        obtain ⟨h6, hf⟩ := gm_ck_s hf
        refine gm_iald C (Nat.le_of_ble_eq_true rfl) rfl rfl h6 dX11_luckiest_22 ?_
        refine gm_aload_n C dX11_luckiest_23 rfl 0 rfl ?_
        refine gm_getr (j := 2) (u := 2) C (Nat.le_of_ble_eq_true rfl) rfl kc_11 (k := 6) rfl (by decide) rfl rfl wl_846 dX11_luckiest_24 ?_
        refine gm_bipush (v := 31) C dX11_luckiest_27 (by decide) ?_
        refine gm_iload_n C dX11_luckiest_29 rfl 3 rfl ?_
        refine gm_iadd C dX11_luckiest_30 ?_
        obtain ⟨h7, hf⟩ := gm_ck_s hf
        refine gm_iald C (Nat.le_of_ble_eq_true rfl) rfl rfl h7 dX11_luckiest_31 ?_
        refine gm_iadd C dX11_luckiest_32 ?_
        obtain ⟨x8, ex8, hf⟩ := gm_lt_s hf
        refine gm_topi ex8 ?_
        refine gm_istore (lv' := [(4, .int x8), (0, .ref (ad 0)), (1, .int y1), (2, .int y2), (3, .int y3)]) C dX11_luckiest_33 (by decide) rfl ?_
        refine gm_iload C dX11_luckiest_35 0 rfl ?_
        refine gm_iload_n C dX11_luckiest_37 rfl 3 rfl ?_
        obtain ⟨x9, hx, hf⟩ := gm_bp1_s hf
        have key : gm_G p l e { frames := 0, cells := 0, slots := 0, locals := 0 } s m args below meth c (MQ below (gm_Q cf ad gm_sM 17 (some (.int r)) S) args s 0 0 (gm_A ad 17)) cf ad gm_sM 17 5 S 46 [(0, .ref (ad 0)), (2, .int y2), (3, .int y3), (4, .int x8)] [.int x9] := by
          refine gm_istore_n (lv' := [(1, .int x9), (0, .ref (ad 0)), (2, .int y2), (3, .int y3), (4, .int x8)]) C dX11_luckiest_46 rfl (by decide) rfl ?_
          refine gm_iload C dX11_luckiest_47 4 rfl ?_
          refine gm_iload_n C dX11_luckiest_49 rfl 2 rfl ?_
          obtain ⟨x10, hx, hf⟩ := gm_bp1_s hf
          have key : gm_G p l e { frames := 0, cells := 0, slots := 0, locals := 0 } s m args below meth c (MQ below (gm_Q cf ad gm_sM 17 (some (.int r)) S) args s 0 0 (gm_A ad 17)) cf ad gm_sM 17 5 S 59 [(0, .ref (ad 0)), (1, .int x9), (3, .int y3)] [.int x10] := by
            refine gm_istore_n (lv' := [(2, .int x10), (0, .ref (ad 0)), (1, .int x9), (3, .int y3)]) C dX11_luckiest_59 rfl (by decide) rfl ?_
            obtain ⟨x11, ex11, hf⟩ := gm_lt_s hf
            refine gm_iinc (v := x11) (lv' := [(3, .int x11), (2, .int x10), (0, .ref (ad 0)), (1, .int x9)]) (j := 3) C dX11_luckiest_60 rfl (by rw [ex11]; rfl) (by decide) rfl ?_
            refine gm_goto C 6 dX11_luckiest_63 (by decide) ?_
            exact gm_lvp [2, 3, 1, 0] rfl (ih _ _ _ _ hf K)
          have hf := hx
          refine gm_icmp_le C 58 dX11_luckiest_50 (by decide) (fun c12 => ?_) (fun c12 => ?_)
          · have hf := gm_it _ c12 hf
            refine gm_iload_n C dX11_luckiest_58 rfl 2 rfl ?_
            cases hf
            exact gm_lvp [1, 0, 3] rfl key
          · have hf := gm_if _ c12 hf
            refine gm_iload C dX11_luckiest_53 4 rfl ?_
            refine gm_goto C 59 dX11_luckiest_55 (by decide) ?_
            cases hf
            exact gm_lvp [1, 0, 3] rfl key
        have hf := hx
        refine gm_icmp_le C 45 dX11_luckiest_38 (by decide) (fun c13 => ?_) (fun c13 => ?_)
        · have hf := gm_it _ c13 hf
          refine gm_iload_n C dX11_luckiest_45 rfl 2 rfl ?_
          cases hf
          exact gm_lvp [1, 3, 4, 0] rfl key
        · have hf := gm_if _ c13 hf
          refine gm_iload_n C dX11_luckiest_41 rfl 4 rfl ?_
          refine gm_goto C 46 dX11_luckiest_42 (by decide) ?_
          cases hf
          exact gm_lvp [1, 3, 4, 0] rfl key
  obtain ⟨z4, hx, hf⟩ := gm_bp1_s hf
  refine gm_lvp [3, 2, 1, 0] rfl (L6 fl _ _ _ _ hx ?_)
  refine gm_iload_n C dX11_luckiest_66 rfl 0 rfl ?_
  exact gm_iretK C hr rfl dX11_luckiest_67 hf
theorem dX11_kindOf_0 : decode cX11_kindOf 0 = .ok (.iload_n 0, 1) := by decide +kernel
theorem dX11_kindOf_1 : decode cX11_kindOf 1 = .ok (.bipush 37, 2) := by decide +kernel
theorem dX11_kindOf_3 : decode cX11_kindOf 3 = .ok (.if_icmp .ge 7, 3) := by decide +kernel
theorem dX11_kindOf_6 : decode cX11_kindOf 6 = .ok (.iconst 0, 1) := by decide +kernel
theorem dX11_kindOf_7 : decode cX11_kindOf 7 = .ok (.goto 35, 3) := by decide +kernel
theorem dX11_kindOf_10 : decode cX11_kindOf 10 = .ok (.iload_n 0, 1) := by decide +kernel
theorem dX11_kindOf_11 : decode cX11_kindOf 11 = .ok (.bipush 40, 2) := by decide +kernel
theorem dX11_kindOf_13 : decode cX11_kindOf 13 = .ok (.if_icmp .ge 7, 3) := by decide +kernel
theorem dX11_kindOf_16 : decode cX11_kindOf 16 = .ok (.iconst 1, 1) := by decide +kernel
theorem dX11_kindOf_17 : decode cX11_kindOf 17 = .ok (.goto 25, 3) := by decide +kernel
theorem dX11_kindOf_20 : decode cX11_kindOf 20 = .ok (.iload_n 0, 1) := by decide +kernel
theorem dX11_kindOf_21 : decode cX11_kindOf 21 = .ok (.bipush 90, 2) := by decide +kernel
theorem dX11_kindOf_23 : decode cX11_kindOf 23 = .ok (.if_icmp .ge 7, 3) := by decide +kernel
theorem dX11_kindOf_26 : decode cX11_kindOf 26 = .ok (.iconst 2, 1) := by decide +kernel
theorem dX11_kindOf_27 : decode cX11_kindOf 27 = .ok (.goto 15, 3) := by decide +kernel
theorem dX11_kindOf_30 : decode cX11_kindOf 30 = .ok (.iload_n 0, 1) := by decide +kernel
theorem dX11_kindOf_31 : decode cX11_kindOf 31 = .ok (.sipush 167, 3) := by decide +kernel
theorem dX11_kindOf_34 : decode cX11_kindOf 34 = .ok (.if_icmp .ge 7, 3) := by decide +kernel
theorem dX11_kindOf_37 : decode cX11_kindOf 37 = .ok (.iconst 3, 1) := by decide +kernel
theorem dX11_kindOf_38 : decode cX11_kindOf 38 = .ok (.goto 4, 3) := by decide +kernel
theorem dX11_kindOf_41 : decode cX11_kindOf 41 = .ok (.iconst 4, 1) := by decide +kernel
theorem dX11_kindOf_42 : decode cX11_kindOf 42 = .ok (.ireturn, 1) := by decide +kernel
def Mo_kindOf (a0 : Int32) : Option Int32 :=
  if (37 : Int32) ≤ a0 then (
    if (40 : Int32) ≤ a0 then (
      if (90 : Int32) ≤ a0 then (
        if (167 : Int32) ≤ a0 then (
          some (4)
        ) else (
          some (3)
        )
      ) else (
        some (2)
      )
    ) else (
      some (1)
    )
  ) else (
    some (0)
  )
set_option maxHeartbeats 4000000 in
set_option maxRecDepth 100000 in
theorem Mo_kindOf_c (l : Launch) (cf : gm_C) (ad : Nat → Nat)    {a0 : Int32} {S : gm_M} {r : Int32}  (hf : Mo_kindOf a0 = some r) : gm_Met l yX11_kindOf cX11_kindOf 1 (some .int) 0 0 cf ad gm_sM 17 [.int a0] S (some (.int r)) S := by
  refine gm_met (by decide +kernel) (Nat.le_of_ble_eq_true rfl) ?_
  intro p e s m args below meth c C hr
  have C : gm_F p s m args meth c cf ad 17 cX11_kindOf 1 RX11 := C
  refine gm_lve (lv' := [(0, .int a0)]) rfl ?_
  unfold Mo_kindOf at hf
  refine gm_iload_n C dX11_kindOf_0 rfl 0 rfl ?_
  refine gm_bipush (v := 37) C dX11_kindOf_1 (by decide) ?_
  refine gm_icmp_ge C 10 dX11_kindOf_3 (by decide) (fun c1 => ?_) (fun c1 => ?_)
  · have hf := gm_it _ c1 hf
    refine gm_iload_n C dX11_kindOf_10 rfl 0 rfl ?_
    refine gm_bipush (v := 40) C dX11_kindOf_11 (by decide) ?_
    refine gm_icmp_ge C 20 dX11_kindOf_13 (by decide) (fun c2 => ?_) (fun c2 => ?_)
    · have hf := gm_it _ c2 hf
      refine gm_iload_n C dX11_kindOf_20 rfl 0 rfl ?_
      refine gm_bipush (v := 90) C dX11_kindOf_21 (by decide) ?_
      refine gm_icmp_ge C 30 dX11_kindOf_23 (by decide) (fun c3 => ?_) (fun c3 => ?_)
      · have hf := gm_it _ c3 hf
        refine gm_iload_n C dX11_kindOf_30 rfl 0 rfl ?_
        refine gm_sipush (v := 167) C dX11_kindOf_31 (by decide) ?_
        refine gm_icmp_ge C 41 dX11_kindOf_34 (by decide) (fun c4 => ?_) (fun c4 => ?_)
        · have hf := gm_it _ c4 hf
          refine gm_iconst (v := 4) C dX11_kindOf_41 (by decide) ?_
          exact gm_iretK C hr rfl dX11_kindOf_42 hf
        · have hf := gm_if _ c4 hf
          refine gm_iconst (v := 3) C dX11_kindOf_37 (by decide) ?_
          refine gm_goto C 42 dX11_kindOf_38 (by decide) ?_
          exact gm_iretK C hr rfl dX11_kindOf_42 hf
      · have hf := gm_if _ c3 hf
        refine gm_iconst (v := 2) C dX11_kindOf_26 (by decide) ?_
        refine gm_goto C 42 dX11_kindOf_27 (by decide) ?_
        exact gm_iretK C hr rfl dX11_kindOf_42 hf
    · have hf := gm_if _ c2 hf
      refine gm_iconst (v := 1) C dX11_kindOf_16 (by decide) ?_
      refine gm_goto C 42 dX11_kindOf_17 (by decide) ?_
      exact gm_iretK C hr rfl dX11_kindOf_42 hf
  · have hf := gm_if _ c1 hf
    refine gm_iconst (v := 0) C dX11_kindOf_6 (by decide) ?_
    refine gm_goto C 42 dX11_kindOf_7 (by decide) ?_
    exact gm_iretK C hr rfl dX11_kindOf_42 hf
theorem dX11_restOf_0 : decode cX11_restOf 0 = .ok (.iconst 2, 1) := by decide +kernel
theorem dX11_restOf_1 : decode cX11_restOf 1 = .ok (.istore_n 1, 1) := by decide +kernel
theorem dX11_restOf_2 : decode cX11_restOf 2 = .ok (.iload_n 0, 1) := by decide +kernel
theorem dX11_restOf_3 : decode cX11_restOf 3 = .ok (.bipush 90, 2) := by decide +kernel
theorem dX11_restOf_5 : decode cX11_restOf 5 = .ok (.isub, 1) := by decide +kernel
theorem dX11_restOf_6 : decode cX11_restOf 6 = .ok (.istore_n 2, 1) := by decide +kernel
theorem dX11_restOf_7 : decode cX11_restOf 7 = .ok (.iload_n 2, 1) := by decide +kernel
theorem dX11_restOf_8 : decode cX11_restOf 8 = .ok (.iload_n 1, 1) := by decide +kernel
theorem dX11_restOf_9 : decode cX11_restOf 9 = .ok (.if_icmp .lt 13, 3) := by decide +kernel
theorem dX11_restOf_12 : decode cX11_restOf 12 = .ok (.iload_n 2, 1) := by decide +kernel
theorem dX11_restOf_13 : decode cX11_restOf 13 = .ok (.iload_n 1, 1) := by decide +kernel
theorem dX11_restOf_14 : decode cX11_restOf 14 = .ok (.isub, 1) := by decide +kernel
theorem dX11_restOf_15 : decode cX11_restOf 15 = .ok (.istore_n 2, 1) := by decide +kernel
theorem dX11_restOf_16 : decode cX11_restOf 16 = .ok (.iinc 1 1, 3) := by decide +kernel
theorem dX11_restOf_19 : decode cX11_restOf 19 = .ok (.goto (-12), 3) := by decide +kernel
theorem dX11_restOf_22 : decode cX11_restOf 22 = .ok (.bipush 100, 2) := by decide +kernel
theorem dX11_restOf_24 : decode cX11_restOf 24 = .ok (.iload_n 1, 1) := by decide +kernel
theorem dX11_restOf_25 : decode cX11_restOf 25 = .ok (.imul, 1) := by decide +kernel
theorem dX11_restOf_26 : decode cX11_restOf 26 = .ok (.iload_n 2, 1) := by decide +kernel
theorem dX11_restOf_27 : decode cX11_restOf 27 = .ok (.iadd, 1) := by decide +kernel
theorem dX11_restOf_28 : decode cX11_restOf 28 = .ok (.ireturn, 1) := by decide +kernel
def Mo_restOf_L7_b  (rec : Int32 → Int32 → Option (Int32 × Int32)) (y2 : Int32) (y3 : Int32) : Option (Int32 × Int32) :=
  if y3 < y2 then (
    some (y2, y3)
  ) else (
    gm_lt (α := Int32) (y3 - y2) fun x7 =>
    gm_lt (α := Int32) (y2 + 1) fun x8 =>
    rec x8 x7
  )
def Mo_restOf_L7  : Nat → Int32 → Int32 → Option (Int32 × Int32)
  | 0 => fun _ _ => none
  | n + 1 => Mo_restOf_L7_b  (Mo_restOf_L7  n)
def Mo_restOf (fl : Nat) (a0 : Int32) : Option Int32 :=
  gm_lt (α := Int32) (a0 - 90) fun x1 =>
  gm_bp2 (Mo_restOf_L7  fl 2 x1) fun z4 z5 =>
  some ((100 * z4) + z5)
set_option maxHeartbeats 4000000 in
set_option maxRecDepth 100000 in
theorem Mo_restOf_c (l : Launch) (cf : gm_C) (ad : Nat → Nat) {fl : Nat}   {a0 : Int32} {S : gm_M} {r : Int32}  (hf : Mo_restOf fl a0 = some r) : gm_Met l yX11_restOf cX11_restOf 3 (some .int) 0 0 cf ad gm_sM 17 [.int a0] S (some (.int r)) S := by
  refine gm_met (by decide +kernel) (Nat.le_of_ble_eq_true rfl) ?_
  intro p e s m args below meth c C hr
  have C : gm_F p s m args meth c cf ad 17 cX11_restOf 3 RX11 := C
  refine gm_lve (lv' := [(0, .int a0)]) rfl ?_
  unfold Mo_restOf at hf
  refine gm_iconst (v := 2) C dX11_restOf_0 (by decide) ?_
  refine gm_istore_n (lv' := [(1, .int 2), (0, .int a0)]) C dX11_restOf_1 rfl (by decide) rfl ?_
  refine gm_iload_n C dX11_restOf_2 rfl 1 rfl ?_
  refine gm_bipush (v := 90) C dX11_restOf_3 (by decide) ?_
  refine gm_isub C dX11_restOf_5 ?_
  obtain ⟨x1, ex1, hf⟩ := gm_lt_s hf
  refine gm_topi ex1 ?_
  refine gm_istore_n (lv' := [(2, .int x1), (1, .int 2), (0, .int a0)]) C dX11_restOf_6 rfl (by decide) rfl ?_
  have L7 : ∀ (n : Nat) (y2 : Int32) (y3 : Int32) (z4 : Int32) (z5 : Int32), Mo_restOf_L7  n y2 y3 = some (z4, z5) → gm_G p l e { frames := 0, cells := 0, slots := 0, locals := 0 } s m args below meth c (MQ below (gm_Q cf ad gm_sM 17 (some (.int r)) S) args s 0 0 (gm_A ad 17)) cf ad gm_sM 17 3 S 22 [(1, .int z4), (2, .int z5)] [] → gm_G p l e { frames := 0, cells := 0, slots := 0, locals := 0 } s m args below meth c (MQ below (gm_Q cf ad gm_sM 17 (some (.int r)) S) args s 0 0 (gm_A ad 17)) cf ad gm_sM 17 3 S 7 [(1, .int y2), (2, .int y3)] [] := by
    intro n
    induction n with
    | zero => intro y2 y3 z4 z5 hf K; cases (show (none : Option _) = some _ from hf)
    | succ n ih =>
      intro y2 y3 z4 z5 hf K
      have hf : Mo_restOf_L7_b  (Mo_restOf_L7  n) y2 y3 = some (z4, z5) := hf
      unfold Mo_restOf_L7_b at hf
      refine gm_iload_n C dX11_restOf_7 rfl 1 rfl ?_
      refine gm_iload_n C dX11_restOf_8 rfl 0 rfl ?_
      refine gm_icmp_lt C 22 dX11_restOf_9 (by decide) (fun c6 => ?_) (fun c6 => ?_)
      · have hf := gm_it _ c6 hf
        cases hf
        exact gm_lvp [0, 1] rfl K
      · have hf := gm_if _ c6 hf
        refine gm_iload_n C dX11_restOf_12 rfl 1 rfl ?_
        refine gm_iload_n C dX11_restOf_13 rfl 0 rfl ?_
        refine gm_isub C dX11_restOf_14 ?_
        obtain ⟨x7, ex7, hf⟩ := gm_lt_s hf
        refine gm_topi ex7 ?_
        refine gm_istore_n (lv' := [(2, .int x7), (1, .int y2)]) C dX11_restOf_15 rfl (by decide) rfl ?_
        obtain ⟨x8, ex8, hf⟩ := gm_lt_s hf
        refine gm_iinc (v := x8) (lv' := [(1, .int x8), (2, .int x7)]) (j := 1) C dX11_restOf_16 rfl (by rw [ex8]; rfl) (by decide) rfl ?_
        refine gm_goto C 7 dX11_restOf_19 (by decide) ?_
        exact gm_lvp [0, 1] rfl (ih _ _ _ _ hf K)
  obtain ⟨z4, z5, hx, hf⟩ := gm_bp2_s hf
  refine gm_lvp [1, 0] rfl (L7 fl _ _ _ _ hx ?_)
  refine gm_bipush (v := 100) C dX11_restOf_22 (by decide) ?_
  refine gm_iload_n C dX11_restOf_24 rfl 0 rfl ?_
  refine gm_imul C dX11_restOf_25 ?_
  refine gm_iload_n C dX11_restOf_26 rfl 1 rfl ?_
  refine gm_iadd C dX11_restOf_27 ?_
  exact gm_iretK C hr rfl dX11_restOf_28 hf
theorem dX11_aOf_0 : decode cX11_aOf 0 = .ok (.iload_n 0, 1) := by decide +kernel
theorem dX11_aOf_1 : decode cX11_aOf 1 = .ok (.invokestatic 303, 3) := by decide +kernel
theorem dX11_aOf_4 : decode cX11_aOf 4 = .ok (.tableswitch 54 0 3 #[32, 34, 39, 46], 32) := by decide +kernel
theorem dX11_aOf_36 : decode cX11_aOf 36 = .ok (.iload_n 0, 1) := by decide +kernel
theorem dX11_aOf_37 : decode cX11_aOf 37 = .ok (.ireturn, 1) := by decide +kernel
theorem dX11_aOf_38 : decode cX11_aOf 38 = .ok (.iload_n 0, 1) := by decide +kernel
theorem dX11_aOf_39 : decode cX11_aOf 39 = .ok (.bipush 37, 2) := by decide +kernel
theorem dX11_aOf_41 : decode cX11_aOf 41 = .ok (.isub, 1) := by decide +kernel
theorem dX11_aOf_42 : decode cX11_aOf 42 = .ok (.ireturn, 1) := by decide +kernel
theorem dX11_aOf_43 : decode cX11_aOf 43 = .ok (.iload_n 0, 1) := by decide +kernel
theorem dX11_aOf_44 : decode cX11_aOf 44 = .ok (.bipush 40, 2) := by decide +kernel
theorem dX11_aOf_46 : decode cX11_aOf 46 = .ok (.isub, 1) := by decide +kernel
theorem dX11_aOf_47 : decode cX11_aOf 47 = .ok (.iconst 5, 1) := by decide +kernel
theorem dX11_aOf_48 : decode cX11_aOf 48 = .ok (.idiv, 1) := by decide +kernel
theorem dX11_aOf_49 : decode cX11_aOf 49 = .ok (.ireturn, 1) := by decide +kernel
theorem dX11_aOf_50 : decode cX11_aOf 50 = .ok (.iload_n 0, 1) := by decide +kernel
theorem dX11_aOf_51 : decode cX11_aOf 51 = .ok (.invokestatic 306, 3) := by decide +kernel
theorem dX11_aOf_54 : decode cX11_aOf 54 = .ok (.bipush 100, 2) := by decide +kernel
theorem dX11_aOf_56 : decode cX11_aOf 56 = .ok (.idiv, 1) := by decide +kernel
theorem dX11_aOf_57 : decode cX11_aOf 57 = .ok (.ireturn, 1) := by decide +kernel
theorem dX11_aOf_58 : decode cX11_aOf 58 = .ok (.iload_n 0, 1) := by decide +kernel
theorem dX11_aOf_59 : decode cX11_aOf 59 = .ok (.sipush 167, 3) := by decide +kernel
theorem dX11_aOf_62 : decode cX11_aOf 62 = .ok (.isub, 1) := by decide +kernel
theorem dX11_aOf_63 : decode cX11_aOf 63 = .ok (.ireturn, 1) := by decide +kernel
def Mo_aOf (fl : Nat) (a0 : Int32) : Option Int32 :=
  gm_bp1 (Mo_kindOf a0) fun v1 =>
  if v1 = 0 then (
    some (a0)
  ) else (
  if v1 = 1 then (
    some (a0 - 37)
  ) else (
  if v1 = 2 then (
    some ((a0 - 40) / 5)
  ) else (
  if v1 = 3 then (
    gm_bp1 (Mo_restOf fl a0) fun v6 =>
    some (v6 / 100)
  ) else (
    some (a0 - 167)
  ))))
set_option maxHeartbeats 4000000 in
set_option maxRecDepth 100000 in
theorem Mo_aOf_c (l : Launch) (cf : gm_C) (ad : Nat → Nat) {fl : Nat}   {a0 : Int32} {S : gm_M} {r : Int32}  (hf : Mo_aOf fl a0 = some r) : gm_Met l yX11_aOf cX11_aOf 1 (some .int) 1 22 cf ad gm_sM 17 [.int a0] S (some (.int r)) S := by
  refine gm_met (by decide +kernel) (Nat.le_of_ble_eq_true rfl) ?_
  intro p e s m args below meth c C hr
  have C : gm_F p s m args meth c cf ad 17 cX11_aOf 1 RX11 := C
  refine gm_lve (lv' := [(0, .int a0)]) rfl ?_
  unfold Mo_aOf at hf
  refine gm_iload_n C dX11_aOf_0 rfl 0 rfl ?_
  obtain ⟨v1, ev1, hf⟩ := gm_bp1_s hf
  refine gm_callSi (As := [.int a0]) C (Mo_kindOf_c l cf ad ev1 (S := S)) wy_Mo_kindOf wl_1106 rfl ⟨(Nat.le_of_ble_eq_true rfl), (Nat.le_of_ble_eq_true rfl)⟩ rfl (Nat.le_of_ble_eq_true rfl) dX11_aOf_1 ?_
  by_cases c2 : v1 = 0
  · have hf := gm_it _ c2 hf
    refine gm_tableIn C 36 dX11_aOf_4 (by rw [c2]; decide) (by rw [c2]; decide) (by rw [c2]; rfl) (by decide) ?_
    refine gm_iload_n C dX11_aOf_36 rfl 0 rfl ?_
    exact gm_iretK C hr rfl dX11_aOf_37 hf
  · have hf := gm_if _ c2 hf
    by_cases c3 : v1 = 1
    · have hf := gm_it _ c3 hf
      refine gm_tableIn C 38 dX11_aOf_4 (by rw [c3]; decide) (by rw [c3]; decide) (by rw [c3]; rfl) (by decide) ?_
      refine gm_iload_n C dX11_aOf_38 rfl 0 rfl ?_
      refine gm_bipush (v := 37) C dX11_aOf_39 (by decide) ?_
      refine gm_isub C dX11_aOf_41 ?_
      exact gm_iretK C hr rfl dX11_aOf_42 hf
    · have hf := gm_if _ c3 hf
      by_cases c4 : v1 = 2
      · have hf := gm_it _ c4 hf
        refine gm_tableIn C 43 dX11_aOf_4 (by rw [c4]; decide) (by rw [c4]; decide) (by rw [c4]; rfl) (by decide) ?_
        refine gm_iload_n C dX11_aOf_43 rfl 0 rfl ?_
        refine gm_bipush (v := 40) C dX11_aOf_44 (by decide) ?_
        refine gm_isub C dX11_aOf_46 ?_
        refine gm_iconst (v := 5) C dX11_aOf_47 (by decide) ?_
        refine gm_idiv C dX11_aOf_48 (by decide) ?_
        exact gm_iretK C hr rfl dX11_aOf_49 hf
      · have hf := gm_if _ c4 hf
        by_cases c5 : v1 = 3
        · have hf := gm_it _ c5 hf
          refine gm_tableIn C 50 dX11_aOf_4 (by rw [c5]; decide) (by rw [c5]; decide) (by rw [c5]; rfl) (by decide) ?_
          refine gm_iload_n C dX11_aOf_50 rfl 0 rfl ?_
          obtain ⟨v6, ev6, hf⟩ := gm_bp1_s hf
          refine gm_callSi (As := [.int a0]) C (Mo_restOf_c l cf ad ev6 (S := S)) wy_Mo_restOf wl_1112 rfl ⟨(Nat.le_of_ble_eq_true rfl), (Nat.le_of_ble_eq_true rfl)⟩ rfl (Nat.le_of_ble_eq_true rfl) dX11_aOf_51 ?_
          refine gm_bipush (v := 100) C dX11_aOf_54 (by decide) ?_
          refine gm_idiv C dX11_aOf_56 (by decide) ?_
          exact gm_iretK C hr rfl dX11_aOf_57 hf
        · have hf := gm_if _ c5 hf
          have nc2 : (v1).toInt ≠ 0 := gm_nt c2
          have nc3 : (v1).toInt ≠ 1 := gm_nt c3
          have nc4 : (v1).toInt ≠ 2 := gm_nt c4
          have nc5 : (v1).toInt ≠ 3 := gm_nt c5
          refine gm_tableOut C 58 dX11_aOf_4 (by omega) (by decide) ?_
          refine gm_iload_n C dX11_aOf_58 rfl 0 rfl ?_
          refine gm_sipush (v := 167) C dX11_aOf_59 (by decide) ?_
          refine gm_isub C dX11_aOf_62 ?_
          exact gm_iretK C hr rfl dX11_aOf_63 hf
theorem dX11_bOf_0 : decode cX11_bOf 0 = .ok (.iload_n 0, 1) := by decide +kernel
theorem dX11_bOf_1 : decode cX11_bOf 1 = .ok (.invokestatic 303, 3) := by decide +kernel
theorem dX11_bOf_4 : decode cX11_bOf 4 = .ok (.istore_n 1, 1) := by decide +kernel
theorem dX11_bOf_5 : decode cX11_bOf 5 = .ok (.iload_n 1, 1) := by decide +kernel
theorem dX11_bOf_6 : decode cX11_bOf 6 = .ok (.iconst 2, 1) := by decide +kernel
theorem dX11_bOf_7 : decode cX11_bOf 7 = .ok (.if_icmp .ne 12, 3) := by decide +kernel
theorem dX11_bOf_10 : decode cX11_bOf 10 = .ok (.iload_n 0, 1) := by decide +kernel
theorem dX11_bOf_11 : decode cX11_bOf 11 = .ok (.bipush 40, 2) := by decide +kernel
theorem dX11_bOf_13 : decode cX11_bOf 13 = .ok (.isub, 1) := by decide +kernel
theorem dX11_bOf_14 : decode cX11_bOf 14 = .ok (.iconst 5, 1) := by decide +kernel
theorem dX11_bOf_15 : decode cX11_bOf 15 = .ok (.irem, 1) := by decide +kernel
theorem dX11_bOf_16 : decode cX11_bOf 16 = .ok (.goto 19, 3) := by decide +kernel
theorem dX11_bOf_19 : decode cX11_bOf 19 = .ok (.iload_n 1, 1) := by decide +kernel
theorem dX11_bOf_20 : decode cX11_bOf 20 = .ok (.iconst 3, 1) := by decide +kernel
theorem dX11_bOf_21 : decode cX11_bOf 21 = .ok (.if_icmp .ne 13, 3) := by decide +kernel
theorem dX11_bOf_24 : decode cX11_bOf 24 = .ok (.iload_n 0, 1) := by decide +kernel
theorem dX11_bOf_25 : decode cX11_bOf 25 = .ok (.invokestatic 306, 3) := by decide +kernel
theorem dX11_bOf_28 : decode cX11_bOf 28 = .ok (.bipush 100, 2) := by decide +kernel
theorem dX11_bOf_30 : decode cX11_bOf 30 = .ok (.irem, 1) := by decide +kernel
theorem dX11_bOf_31 : decode cX11_bOf 31 = .ok (.goto 4, 3) := by decide +kernel
theorem dX11_bOf_34 : decode cX11_bOf 34 = .ok (.iconst 0, 1) := by decide +kernel
theorem dX11_bOf_35 : decode cX11_bOf 35 = .ok (.ireturn, 1) := by decide +kernel
def Mo_bOf (fl : Nat) (a0 : Int32) : Option Int32 :=
  gm_bp1 (Mo_kindOf a0) fun v1 =>
  if v1 = 2 then (
    some (gm_rm (a0 - 40) 5)
  ) else (
    if v1 = 3 then (
      gm_bp1 (Mo_restOf fl a0) fun v4 =>
      some (gm_rm v4 100)
    ) else (
      some (0)
    )
  )
set_option maxHeartbeats 4000000 in
set_option maxRecDepth 100000 in
theorem Mo_bOf_c (l : Launch) (cf : gm_C) (ad : Nat → Nat) {fl : Nat}   {a0 : Int32} {S : gm_M} {r : Int32}  (hf : Mo_bOf fl a0 = some r) : gm_Met l yX11_bOf cX11_bOf 2 (some .int) 1 22 cf ad gm_sM 17 [.int a0] S (some (.int r)) S := by
  refine gm_met (by decide +kernel) (Nat.le_of_ble_eq_true rfl) ?_
  intro p e s m args below meth c C hr
  have C : gm_F p s m args meth c cf ad 17 cX11_bOf 2 RX11 := C
  refine gm_lve (lv' := [(0, .int a0)]) rfl ?_
  unfold Mo_bOf at hf
  refine gm_iload_n C dX11_bOf_0 rfl 0 rfl ?_
  obtain ⟨v1, ev1, hf⟩ := gm_bp1_s hf
  refine gm_callSi (As := [.int a0]) C (Mo_kindOf_c l cf ad ev1 (S := S)) wy_Mo_kindOf wl_1106 rfl ⟨(Nat.le_of_ble_eq_true rfl), (Nat.le_of_ble_eq_true rfl)⟩ rfl (Nat.le_of_ble_eq_true rfl) dX11_bOf_1 ?_
  refine gm_istore_n (lv' := [(1, .int v1), (0, .int a0)]) C dX11_bOf_4 rfl (by decide) rfl ?_
  refine gm_iload_n C dX11_bOf_5 rfl 0 rfl ?_
  refine gm_iconst (v := 2) C dX11_bOf_6 (by decide) ?_
  refine gm_icmp_ne C 19 dX11_bOf_7 (by decide) (fun c2 => ?_) (fun c2 => ?_)
  · have hf := gm_if _ c2 hf
    refine gm_iload_n C dX11_bOf_19 rfl 0 rfl ?_
    refine gm_iconst (v := 3) C dX11_bOf_20 (by decide) ?_
    refine gm_icmp_ne C 34 dX11_bOf_21 (by decide) (fun c3 => ?_) (fun c3 => ?_)
    · have hf := gm_if _ c3 hf
      refine gm_iconst (v := 0) C dX11_bOf_34 (by decide) ?_
      exact gm_iretK C hr rfl dX11_bOf_35 hf
    · have hf := gm_it _ c3 hf
      refine gm_iload_n C dX11_bOf_24 rfl 1 rfl ?_
      obtain ⟨v4, ev4, hf⟩ := gm_bp1_s hf
      refine gm_callSi (As := [.int a0]) C (Mo_restOf_c l cf ad ev4 (S := S)) wy_Mo_restOf wl_1112 rfl ⟨(Nat.le_of_ble_eq_true rfl), (Nat.le_of_ble_eq_true rfl)⟩ rfl (Nat.le_of_ble_eq_true rfl) dX11_bOf_25 ?_
      refine gm_bipush (v := 100) C dX11_bOf_28 (by decide) ?_
      refine gm_irem C dX11_bOf_30 (by decide) ?_
      refine gm_goto C 35 dX11_bOf_31 (by decide) ?_
      exact gm_iretK C hr rfl dX11_bOf_35 hf
  · have hf := gm_it _ c2 hf
    refine gm_iload_n C dX11_bOf_10 rfl 1 rfl ?_
    refine gm_bipush (v := 40) C dX11_bOf_11 (by decide) ?_
    refine gm_isub C dX11_bOf_13 ?_
    refine gm_iconst (v := 5) C dX11_bOf_14 (by decide) ?_
    refine gm_irem C dX11_bOf_15 (by decide) ?_
    refine gm_goto C 35 dX11_bOf_16 (by decide) ?_
    exact gm_iretK C hr rfl dX11_bOf_35 hf
theorem dX11_saysOf_0 : decode cX11_saysOf 0 = .ok (.aload_n 0, 1) := by decide +kernel
theorem dX11_saysOf_1 : decode cX11_saysOf 1 = .ok (.iload_n 1, 1) := by decide +kernel
theorem dX11_saysOf_2 : decode cX11_saysOf 2 = .ok (.invokestatic 303, 3) := by decide +kernel
theorem dX11_saysOf_5 : decode cX11_saysOf 5 = .ok (.iload_n 1, 1) := by decide +kernel
theorem dX11_saysOf_6 : decode cX11_saysOf 6 = .ok (.invokestatic 309, 3) := by decide +kernel
theorem dX11_saysOf_9 : decode cX11_saysOf 9 = .ok (.iload_n 1, 1) := by decide +kernel
theorem dX11_saysOf_10 : decode cX11_saysOf 10 = .ok (.invokestatic 312, 3) := by decide +kernel
theorem dX11_saysOf_13 : decode cX11_saysOf 13 = .ok (.iload_n 2, 1) := by decide +kernel
theorem dX11_saysOf_14 : decode cX11_saysOf 14 = .ok (.invokevirtual 210, 3) := by decide +kernel
theorem dX11_saysOf_17 : decode cX11_saysOf 17 = .ok (.ireturn, 1) := by decide +kernel
def Mo_saysOf (fl : Nat) (a0 : Int32) (a1 : Int32) (S : gm_M) : Option Int32 :=
  gm_bp1 (Mo_kindOf a0) fun v1 =>
  gm_bp1 (Mo_aOf fl a0) fun v2 =>
  gm_bp1 (Mo_bOf fl a0) fun v3 =>
  gm_bp1 (Mo_saysYes fl v1 v2 v3 a1 S) fun v4 =>
  if vp_nar .boolean v4 = v4 then (some v4) else none
set_option maxHeartbeats 4000000 in
set_option maxRecDepth 100000 in
theorem Mo_saysOf_c (l : Launch) (cf : gm_C) (ad : Nat → Nat) {fl : Nat}   {a0 : Int32} {a1 : Int32} {S : gm_M} {r : Int32}  (hf : Mo_saysOf fl a0 a1 S = some r) : gm_Met l yX11_saysOf cX11_saysOf 3 (some .boolean) 3 73 cf ad gm_sM 17 [.ref (ad 0), .int a0, .int a1] S (some (.int r)) S := by
  refine gm_met (by decide +kernel) (Nat.le_of_ble_eq_true rfl) ?_
  intro p e s m args below meth c C hr
  have C : gm_F p s m args meth c cf ad 17 cX11_saysOf 3 RX11 := C
  refine gm_lve (lv' := [(0, .ref (ad 0)), (1, .int a0), (2, .int a1)]) rfl ?_
  unfold Mo_saysOf at hf
  refine gm_aload_n C dX11_saysOf_0 rfl 0 rfl ?_
  refine gm_iload_n C dX11_saysOf_1 rfl 1 rfl ?_
  obtain ⟨v1, ev1, hf⟩ := gm_bp1_s hf
  refine gm_callSi (As := [.int a0]) C (Mo_kindOf_c l cf ad ev1 (S := S)) wy_Mo_kindOf wl_1106 rfl ⟨(Nat.le_of_ble_eq_true rfl), (Nat.le_of_ble_eq_true rfl)⟩ rfl (Nat.le_of_ble_eq_true rfl) dX11_saysOf_2 ?_
  refine gm_iload_n C dX11_saysOf_5 rfl 1 rfl ?_
  obtain ⟨v2, ev2, hf⟩ := gm_bp1_s hf
  refine gm_callSi (As := [.int a0]) C (Mo_aOf_c l cf ad ev2 (S := S)) wy_Mo_aOf wl_1109 rfl ⟨(Nat.le_of_ble_eq_true rfl), (Nat.le_of_ble_eq_true rfl)⟩ rfl (Nat.le_of_ble_eq_true rfl) dX11_saysOf_6 ?_
  refine gm_iload_n C dX11_saysOf_9 rfl 1 rfl ?_
  obtain ⟨v3, ev3, hf⟩ := gm_bp1_s hf
  refine gm_callSi (As := [.int a0]) C (Mo_bOf_c l cf ad ev3 (S := S)) wy_Mo_bOf wl_1115 rfl ⟨(Nat.le_of_ble_eq_true rfl), (Nat.le_of_ble_eq_true rfl)⟩ rfl (Nat.le_of_ble_eq_true rfl) dX11_saysOf_10 ?_
  refine gm_iload_n C dX11_saysOf_13 rfl 2 rfl ?_
  obtain ⟨v4, ev4, hf⟩ := gm_bp1_s hf
  refine gm_callVi (As := [.int v1, .int v2, .int v3, .int a1]) C (Mo_saysYes_c l cf ad ev4) (Nat.le_of_ble_eq_true rfl) rfl kc_11 wy_Mo_saysYes rfl wl_1054 rfl ⟨(Nat.le_of_ble_eq_true rfl), (Nat.le_of_ble_eq_true rfl)⟩ rfl (Nat.le_of_ble_eq_true rfl) dX11_saysOf_14 ?_
  obtain ⟨h5, hf⟩ := gm_in _ hf
  exact gm_iretK C hr (gm_zb h5) dX11_saysOf_17 hf
theorem dX11_couldBe_0 : decode cX11_couldBe 0 = .ok (.aload_n 0, 1) := by decide +kernel
theorem dX11_couldBe_1 : decode cX11_couldBe 1 = .ok (.getfield 63, 3) := by decide +kernel
theorem dX11_couldBe_4 : decode cX11_couldBe 4 = .ok (.ifCond .le 7, 3) := by decide +kernel
theorem dX11_couldBe_7 : decode cX11_couldBe 7 = .ok (.iconst 1, 1) := by decide +kernel
theorem dX11_couldBe_8 : decode cX11_couldBe 8 = .ok (.goto 4, 3) := by decide +kernel
theorem dX11_couldBe_11 : decode cX11_couldBe 11 = .ok (.iconst 0, 1) := by decide +kernel
theorem dX11_couldBe_12 : decode cX11_couldBe 12 = .ok (.istore_n 2, 1) := by decide +kernel
theorem dX11_couldBe_13 : decode cX11_couldBe 13 = .ok (.iconst 0, 1) := by decide +kernel
theorem dX11_couldBe_14 : decode cX11_couldBe 14 = .ok (.istore_n 3, 1) := by decide +kernel
theorem dX11_couldBe_15 : decode cX11_couldBe 15 = .ok (.iload_n 3, 1) := by decide +kernel
theorem dX11_couldBe_16 : decode cX11_couldBe 16 = .ok (.aload_n 0, 1) := by decide +kernel
theorem dX11_couldBe_17 : decode cX11_couldBe 17 = .ok (.getfield 185, 3) := by decide +kernel
theorem dX11_couldBe_20 : decode cX11_couldBe 20 = .ok (.if_icmp .ge 39, 3) := by decide +kernel
theorem dX11_couldBe_23 : decode cX11_couldBe 23 = .ok (.iload_n 2, 1) := by decide +kernel
theorem dX11_couldBe_24 : decode cX11_couldBe 24 = .ok (.ifCond .eq 35, 3) := by decide +kernel
theorem dX11_couldBe_27 : decode cX11_couldBe 27 = .ok (.aload_n 0, 1) := by decide +kernel
theorem dX11_couldBe_28 : decode cX11_couldBe 28 = .ok (.iload_n 1, 1) := by decide +kernel
theorem dX11_couldBe_29 : decode cX11_couldBe 29 = .ok (.aload_n 0, 1) := by decide +kernel
theorem dX11_couldBe_30 : decode cX11_couldBe 30 = .ok (.getfield 44, 3) := by decide +kernel
theorem dX11_couldBe_33 : decode cX11_couldBe 33 = .ok (.iload_n 3, 1) := by decide +kernel
theorem dX11_couldBe_34 : decode cX11_couldBe 34 = .ok (.iaload, 1) := by decide +kernel
theorem dX11_couldBe_35 : decode cX11_couldBe 35 = .ok (.invokevirtual 315, 3) := by decide +kernel
theorem dX11_couldBe_38 : decode cX11_couldBe 38 = .ok (.aload_n 0, 1) := by decide +kernel
theorem dX11_couldBe_39 : decode cX11_couldBe 39 = .ok (.getfield 47, 3) := by decide +kernel
theorem dX11_couldBe_42 : decode cX11_couldBe 42 = .ok (.iload_n 3, 1) := by decide +kernel
theorem dX11_couldBe_43 : decode cX11_couldBe 43 = .ok (.baload, 1) := by decide +kernel
theorem dX11_couldBe_44 : decode cX11_couldBe 44 = .ok (.if_icmp .ne 7, 3) := by decide +kernel
theorem dX11_couldBe_47 : decode cX11_couldBe 47 = .ok (.iconst 1, 1) := by decide +kernel
theorem dX11_couldBe_48 : decode cX11_couldBe 48 = .ok (.goto 4, 3) := by decide +kernel
theorem dX11_couldBe_51 : decode cX11_couldBe 51 = .ok (.iconst 0, 1) := by decide +kernel
theorem dX11_couldBe_52 : decode cX11_couldBe 52 = .ok (.istore_n 2, 1) := by decide +kernel
theorem dX11_couldBe_53 : decode cX11_couldBe 53 = .ok (.iinc 3 1, 3) := by decide +kernel
theorem dX11_couldBe_56 : decode cX11_couldBe 56 = .ok (.goto (-41), 3) := by decide +kernel
theorem dX11_couldBe_59 : decode cX11_couldBe 59 = .ok (.iload_n 2, 1) := by decide +kernel
theorem dX11_couldBe_60 : decode cX11_couldBe 60 = .ok (.ireturn, 1) := by decide +kernel
def Mo_couldBe_L15_b (fl : Nat) (a0 : Int32) (S : gm_M) (rec : Int32 → Int32 → Option (Int32)) (y2 : Int32) (y3 : Int32) : Option (Int32) :=
  if S.1 0 29 ≤ y3 then (
    some (y2)
  ) else (
    if y2 = 0 then (
      some (y2)
    ) else (
      gm_ck (y3) 8 <|
      gm_bp1 (Mo_saysOf fl a0 (S.1 11 y3.toNatClampNeg) S) fun v8 =>
      gm_ck (y3) 8 <|
      gm_bp1 (show Option (Int32) from
        if v8 = S.1 12 y3.toNatClampNeg then (
          some (1)
        ) else (
          some (0)
        )
      ) fun x10 =>
      gm_lt (α := Int32) (y3 + 1) fun x11 =>
      rec x10 x11
    )
  )
def Mo_couldBe_L15 (fl : Nat) (a0 : Int32) (S : gm_M) : Nat → Int32 → Int32 → Option (Int32)
  | 0 => fun _ _ => none
  | n + 1 => Mo_couldBe_L15_b fl a0 S (Mo_couldBe_L15 fl a0 S n)
def Mo_couldBe (fl : Nat) (a0 : Int32) (S : gm_M) : Option Int32 :=
  gm_bp1 (show Option (Int32) from
    if S.1 0 0 ≤ 0 then (
      some (0)
    ) else (
      some (1)
    )
  ) fun x1 =>
  gm_bp1 (Mo_couldBe_L15 fl a0 S fl x1 0) fun z4 =>
  if vp_nar .boolean z4 = z4 then (some z4) else none
set_option maxHeartbeats 4000000 in
set_option maxRecDepth 100000 in
theorem Mo_couldBe_c (l : Launch) (cf : gm_C) (ad : Nat → Nat) {fl : Nat}   {a0 : Int32} {S : gm_M} {r : Int32}  (hf : Mo_couldBe fl a0 S = some r) : gm_Met l yX11_couldBe cX11_couldBe 4 (some .boolean) 4 95 cf ad gm_sM 17 [.ref (ad 0), .int a0] S (some (.int r)) S := by
  refine gm_met (by decide +kernel) (Nat.le_of_ble_eq_true rfl) ?_
  intro p e s m args below meth c C hr
  have C : gm_F p s m args meth c cf ad 17 cX11_couldBe 4 RX11 := C
  refine gm_lve (lv' := [(0, .ref (ad 0)), (1, .int a0)]) rfl ?_
  unfold Mo_couldBe at hf
  refine gm_aload_n C dX11_couldBe_0 rfl 0 rfl ?_
  refine gm_geti C (Nat.le_of_ble_eq_true rfl) rfl kc_11 (k := 0) rfl (by decide) rfl wl_840 dX11_couldBe_1 ?_
  obtain ⟨x1, hx, hf⟩ := gm_bp1_s hf
  have key : gm_G p l e { frames := 4, cells := 0, slots := 0, locals := 95 } s m args below meth c (MQ below (gm_Q cf ad gm_sM 17 (some (.int r)) S) args s 0 0 (gm_A ad 17)) cf ad gm_sM 17 4 S 12 [(0, .ref (ad 0)), (1, .int a0)] [.int x1] := by
    refine gm_istore_n (lv' := [(2, .int x1), (0, .ref (ad 0)), (1, .int a0)]) C dX11_couldBe_12 rfl (by decide) rfl ?_
    refine gm_iconst (v := 0) C dX11_couldBe_13 (by decide) ?_
    refine gm_istore_n (lv' := [(3, .int 0), (2, .int x1), (0, .ref (ad 0)), (1, .int a0)]) C dX11_couldBe_14 rfl (by decide) rfl ?_
    have L15 : ∀ (n : Nat) (y2 : Int32) (y3 : Int32) (z4 : Int32), Mo_couldBe_L15 fl a0 S n y2 y3 = some (z4) → gm_G p l e { frames := 4, cells := 0, slots := 0, locals := 95 } s m args below meth c (MQ below (gm_Q cf ad gm_sM 17 (some (.int r)) S) args s 0 0 (gm_A ad 17)) cf ad gm_sM 17 4 S 59 [(2, .int z4)] [] → gm_G p l e { frames := 4, cells := 0, slots := 0, locals := 95 } s m args below meth c (MQ below (gm_Q cf ad gm_sM 17 (some (.int r)) S) args s 0 0 (gm_A ad 17)) cf ad gm_sM 17 4 S 15 [(0, .ref (ad 0)), (1, .int a0), (2, .int y2), (3, .int y3)] [] := by
      intro n
      induction n with
      | zero => intro y2 y3 z4 hf K; cases (show (none : Option _) = some _ from hf)
      | succ n ih =>
        intro y2 y3 z4 hf K
        have hf : Mo_couldBe_L15_b fl a0 S (Mo_couldBe_L15 fl a0 S n) y2 y3 = some (z4) := hf
        unfold Mo_couldBe_L15_b at hf
        refine gm_iload_n C dX11_couldBe_15 rfl 3 rfl ?_
        refine gm_aload_n C dX11_couldBe_16 rfl 0 rfl ?_
        refine gm_geti C (Nat.le_of_ble_eq_true rfl) rfl kc_11 (k := 29) rfl (by decide) rfl wl_869 dX11_couldBe_17 ?_
        refine gm_icmp_ge C 59 dX11_couldBe_20 (by decide) (fun c5 => ?_) (fun c5 => ?_)
        · have hf := gm_it _ c5 hf
          cases hf
          exact gm_lvp [2] rfl K
        · have hf := gm_if _ c5 hf
          refine gm_iload_n C dX11_couldBe_23 rfl 2 rfl ?_
          refine gm_if_eq C 59 dX11_couldBe_24 (by decide) (fun c6 => ?_) (fun c6 => ?_)
          · have hf := gm_it _ c6 hf
            cases hf
            exact gm_lvp [2] rfl K
          · have hf := gm_if _ c6 hf
            refine gm_aload_n C dX11_couldBe_27 rfl 0 rfl ?_
            refine gm_iload_n C dX11_couldBe_28 rfl 1 rfl ?_
            refine gm_aload_n C dX11_couldBe_29 rfl 0 rfl ?_
            refine gm_getr (j := 11) (u := 11) C (Nat.le_of_ble_eq_true rfl) rfl kc_11 (k := 30) rfl (by decide) rfl rfl wl_870 dX11_couldBe_30 ?_
            refine gm_iload_n C dX11_couldBe_33 rfl 3 rfl ?_
            obtain ⟨h7, hf⟩ := gm_ck_s hf
            refine gm_iald C (Nat.le_of_ble_eq_true rfl) rfl rfl h7 dX11_couldBe_34 ?_
            obtain ⟨v8, ev8, hf⟩ := gm_bp1_s hf
            refine gm_callVi (As := [.int a0, .int (S.1 11 y3.toNatClampNeg)]) C (Mo_saysOf_c l cf ad ev8) (Nat.le_of_ble_eq_true rfl) rfl kc_11 wy_Mo_saysOf rfl wl_1102 rfl ⟨(Nat.le_of_ble_eq_true rfl), (Nat.le_of_ble_eq_true rfl)⟩ rfl (Nat.le_of_ble_eq_true rfl) dX11_couldBe_35 ?_
            refine gm_aload_n C dX11_couldBe_38 rfl 0 rfl ?_
            refine gm_getr (j := 12) (u := 12) C (Nat.le_of_ble_eq_true rfl) rfl kc_11 (k := 31) rfl (by decide) rfl rfl wl_871 dX11_couldBe_39 ?_
            refine gm_iload_n C dX11_couldBe_42 rfl 3 rfl ?_
            obtain ⟨h9, hf⟩ := gm_ck_s hf
            refine gm_zald C (Nat.le_of_ble_eq_true rfl) rfl rfl h9 dX11_couldBe_43 ?_
            obtain ⟨x10, hx, hf⟩ := gm_bp1_s hf
            have key : gm_G p l e { frames := 4, cells := 0, slots := 0, locals := 95 } s m args below meth c (MQ below (gm_Q cf ad gm_sM 17 (some (.int r)) S) args s 0 0 (gm_A ad 17)) cf ad gm_sM 17 4 S 52 [(0, .ref (ad 0)), (1, .int a0), (3, .int y3)] [.int x10] := by
              refine gm_istore_n (lv' := [(2, .int x10), (0, .ref (ad 0)), (1, .int a0), (3, .int y3)]) C dX11_couldBe_52 rfl (by decide) rfl ?_
              obtain ⟨x11, ex11, hf⟩ := gm_lt_s hf
              refine gm_iinc (v := x11) (lv' := [(3, .int x11), (2, .int x10), (0, .ref (ad 0)), (1, .int a0)]) (j := 3) C dX11_couldBe_53 rfl (by rw [ex11]; rfl) (by decide) rfl ?_
              refine gm_goto C 15 dX11_couldBe_56 (by decide) ?_
              exact gm_lvp [2, 3, 1, 0] rfl (ih _ _ _ hf K)
            have hf := hx
            refine gm_icmp_ne C 51 dX11_couldBe_44 (by decide) (fun c12 => ?_) (fun c12 => ?_)
            · have hf := gm_if _ c12 hf
              refine gm_iconst (v := 0) C dX11_couldBe_51 (by decide) ?_
              cases hf
              exact gm_lvp [0, 1, 3] rfl key
            · have hf := gm_it _ c12 hf
              refine gm_iconst (v := 1) C dX11_couldBe_47 (by decide) ?_
              refine gm_goto C 52 dX11_couldBe_48 (by decide) ?_
              cases hf
              exact gm_lvp [0, 1, 3] rfl key
    obtain ⟨z4, hx, hf⟩ := gm_bp1_s hf
    refine gm_lvp [2, 3, 1, 0] rfl (L15 fl _ _ _ hx ?_)
    refine gm_iload_n C dX11_couldBe_59 rfl 0 rfl ?_
    obtain ⟨h13, hf⟩ := gm_in _ hf
    exact gm_iretK C hr (gm_zb h13) dX11_couldBe_60 hf
  have hf := hx
  refine gm_if_le C 11 dX11_couldBe_4 (by decide) (fun c14 => ?_) (fun c14 => ?_)
  · have hf := gm_it _ c14 hf
    refine gm_iconst (v := 0) C dX11_couldBe_11 (by decide) ?_
    cases hf
    exact gm_lvp [0, 1] rfl key
  · have hf := gm_if _ c14 hf
    refine gm_iconst (v := 1) C dX11_couldBe_7 (by decide) ?_
    refine gm_goto C 12 dX11_couldBe_8 (by decide) ?_
    cases hf
    exact gm_lvp [0, 1] rfl key
