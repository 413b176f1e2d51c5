theorem dX10_tram_0 : decode cX10_tram 0 = .ok (.aload_n 0, 1) := by decide +kernel
theorem dX10_tram_1 : decode cX10_tram 1 = .ok (.getfield 10, 3) := by decide +kernel
theorem dX10_tram_4 : decode cX10_tram 4 = .ok (.invokevirtual 77, 3) := by decide +kernel
theorem dX10_tram_7 : decode cX10_tram 7 = .ok (.aload_n 0, 1) := by decide +kernel
theorem dX10_tram_8 : decode cX10_tram 8 = .ok (.getfield 10, 3) := by decide +kernel
theorem dX10_tram_11 : decode cX10_tram 11 = .ok (.getfield 63, 3) := by decide +kernel
theorem dX10_tram_14 : decode cX10_tram 14 = .ok (.iconst 0, 1) := by decide +kernel
theorem dX10_tram_15 : decode cX10_tram 15 = .ok (.putfield 73, 3) := by decide +kernel
theorem dX10_tram_18 : decode cX10_tram 18 = .ok (.aload_n 0, 1) := by decide +kernel
theorem dX10_tram_19 : decode cX10_tram 19 = .ok (.getfield 10, 3) := by decide +kernel
theorem dX10_tram_22 : decode cX10_tram 22 = .ok (.getfield 80, 3) := by decide +kernel
theorem dX10_tram_25 : decode cX10_tram 25 = .ok (.ifCond .eq 25, 3) := by decide +kernel
theorem dX10_tram_28 : decode cX10_tram 28 = .ok (.aload_n 0, 1) := by decide +kernel
theorem dX10_tram_29 : decode cX10_tram 29 = .ok (.aload_n 0, 1) := by decide +kernel
theorem dX10_tram_30 : decode cX10_tram 30 = .ok (.getfield 10, 3) := by decide +kernel
theorem dX10_tram_33 : decode cX10_tram 33 = .ok (.getfield 83, 3) := by decide +kernel
theorem dX10_tram_36 : decode cX10_tram 36 = .ok (.putfield 57, 3) := by decide +kernel
theorem dX10_tram_39 : decode cX10_tram 39 = .ok (.bipush (-10), 2) := by decide +kernel
theorem dX10_tram_41 : decode cX10_tram 41 = .ok (.aload_n 0, 1) := by decide +kernel
theorem dX10_tram_42 : decode cX10_tram 42 = .ok (.getfield 10, 3) := by decide +kernel
theorem dX10_tram_45 : decode cX10_tram 45 = .ok (.getfield 80, 3) := by decide +kernel
theorem dX10_tram_48 : decode cX10_tram 48 = .ok (.isub, 1) := by decide +kernel
theorem dX10_tram_49 : decode cX10_tram 49 = .ok (.ireturn, 1) := by decide +kernel
theorem dX10_tram_50 : decode cX10_tram 50 = .ok (.aload_n 0, 1) := by decide +kernel
theorem dX10_tram_51 : decode cX10_tram 51 = .ok (.iconst (-1), 1) := by decide +kernel
theorem dX10_tram_52 : decode cX10_tram 52 = .ok (.putfield 57, 3) := by decide +kernel
theorem dX10_tram_55 : decode cX10_tram 55 = .ok (.aload_n 0, 1) := by decide +kernel
theorem dX10_tram_56 : decode cX10_tram 56 = .ok (.getfield 19, 3) := by decide +kernel
theorem dX10_tram_59 : decode cX10_tram 59 = .ok (.aload_n 0, 1) := by decide +kernel
theorem dX10_tram_60 : decode cX10_tram 60 = .ok (.getfield 10, 3) := by decide +kernel
theorem dX10_tram_63 : decode cX10_tram 63 = .ok (.getfield 84, 3) := by decide +kernel
theorem dX10_tram_66 : decode cX10_tram 66 = .ok (.invokevirtual 87, 3) := by decide +kernel
theorem dX10_tram_69 : decode cX10_tram 69 = .ok (.aload_n 0, 1) := by decide +kernel
theorem dX10_tram_70 : decode cX10_tram 70 = .ok (.getfield 26, 3) := by decide +kernel
theorem dX10_tram_73 : decode cX10_tram 73 = .ok (.aload_n 0, 1) := by decide +kernel
theorem dX10_tram_74 : decode cX10_tram 74 = .ok (.getfield 19, 3) := by decide +kernel
theorem dX10_tram_77 : decode cX10_tram 77 = .ok (.invokevirtual 91, 3) := by decide +kernel
theorem dX10_tram_80 : decode cX10_tram 80 = .ok (.aload_n 0, 1) := by decide +kernel
theorem dX10_tram_81 : decode cX10_tram 81 = .ok (.getfield 33, 3) := by decide +kernel
theorem dX10_tram_84 : decode cX10_tram 84 = .ok (.iconst 0, 1) := by decide +kernel
theorem dX10_tram_85 : decode cX10_tram 85 = .ok (.putfield 94, 3) := by decide +kernel
theorem dX10_tram_88 : decode cX10_tram 88 = .ok (.aload_n 0, 1) := by decide +kernel
theorem dX10_tram_89 : decode cX10_tram 89 = .ok (.getfield 40, 3) := by decide +kernel
theorem dX10_tram_92 : decode cX10_tram 92 = .ok (.aload_n 0, 1) := by decide +kernel
theorem dX10_tram_93 : decode cX10_tram 93 = .ok (.getfield 19, 3) := by decide +kernel
theorem dX10_tram_96 : decode cX10_tram 96 = .ok (.getfield 97, 3) := by decide +kernel
theorem dX10_tram_99 : decode cX10_tram 99 = .ok (.invokevirtual 100, 3) := by decide +kernel
theorem dX10_tram_102 : decode cX10_tram 102 = .ok (.aload_n 0, 1) := by decide +kernel
theorem dX10_tram_103 : decode cX10_tram 103 = .ok (.getfield 47, 3) := by decide +kernel
theorem dX10_tram_106 : decode cX10_tram 106 = .ok (.iconst 0, 1) := by decide +kernel
theorem dX10_tram_107 : decode cX10_tram 107 = .ok (.putfield 104, 3) := by decide +kernel
theorem dX10_tram_110 : decode cX10_tram 110 = .ok (.iconst 0, 1) := by decide +kernel
theorem dX10_tram_111 : decode cX10_tram 111 = .ok (.istore_n 1, 1) := by decide +kernel
theorem dX10_tram_112 : decode cX10_tram 112 = .ok (.iload_n 1, 1) := by decide +kernel
theorem dX10_tram_113 : decode cX10_tram 113 = .ok (.iconst 2, 1) := by decide +kernel
theorem dX10_tram_114 : decode cX10_tram 114 = .ok (.if_icmp .ge 19, 3) := by decide +kernel
theorem dX10_tram_117 : decode cX10_tram 117 = .ok (.aload_n 0, 1) := by decide +kernel
theorem dX10_tram_118 : decode cX10_tram 118 = .ok (.getfield 53, 3) := by decide +kernel
theorem dX10_tram_121 : decode cX10_tram 121 = .ok (.iload_n 1, 1) := by decide +kernel
theorem dX10_tram_122 : decode cX10_tram 122 = .ok (.aaload, 1) := by decide +kernel
theorem dX10_tram_123 : decode cX10_tram 123 = .ok (.iconst 0, 1) := by decide +kernel
theorem dX10_tram_124 : decode cX10_tram 124 = .ok (.putfield 105, 3) := by decide +kernel
theorem dX10_tram_127 : decode cX10_tram 127 = .ok (.iinc 1 1, 3) := by decide +kernel
theorem dX10_tram_130 : decode cX10_tram 130 = .ok (.goto (-18), 3) := by decide +kernel
theorem dX10_tram_133 : decode cX10_tram 133 = .ok (.aload_n 0, 1) := by decide +kernel
theorem dX10_tram_134 : decode cX10_tram 134 = .ok (.getfield 19, 3) := by decide +kernel
theorem dX10_tram_137 : decode cX10_tram 137 = .ok (.getfield 109, 3) := by decide +kernel
theorem dX10_tram_140 : decode cX10_tram 140 = .ok (.ireturn, 1) := by decide +kernel
def Lt_tram_L112_b  (rec : Int32 → gm_M → Option (gm_M)) (y10 : Int32) (S11 : gm_M) : Option (gm_M) :=
  if (2 : Int32) ≤ y10 then (
    some (S11)
  ) else (
    gm_ck (y10) 2 <|
    gm_lt (α := gm_M) (gm_ui S11 (96 + 5 * y10.toNatClampNeg) 1 0) fun S16 =>
    gm_lt (α := Int32) (y10 + 1) fun x17 =>
    rec x17 S16
  )
def Lt_tram_L112  : Nat → Int32 → gm_M → Option (gm_M)
  | 0 => fun _ _ => none
  | n + 1 => Lt_tram_L112_b  (Lt_tram_L112  n)
def Lt_tram (fl : Nat) (S : gm_M) : Option (Int32 × gm_M) :=
  gm_bp1 (Rd_readText fl S) fun S1 =>
  gm_lt (α := gm_M) (gm_ui S1 2 1 0) fun S2 =>
  if S2.1 1 4 = 0 then (
    gm_lt (α := gm_M) (gm_ui S2 0 8 (-1)) fun S4 =>
    gm_bp1 (Tr_copyFrom 8 4 S4) fun S5 =>
    gm_bp1 (Tb_follow fl S5) fun S6 =>
    gm_lt (α := gm_M) (gm_ui S6 22 2 0) fun S7 =>
    gm_bp1 (Gs_forget fl (S7.1 8 3) S7) fun S8 =>
    gm_lt (α := gm_M) (gm_ui S8 92 2 0) fun S9 =>
    gm_bp1 (Lt_tram_L112  fl 0 S9) fun S12 =>
    some (S12.1 8 8, S12)
  ) else (
    gm_lt (α := gm_M) (gm_ui S2 0 8 (S2.1 1 5)) fun S18 =>
    some ((-10) - (S18.1 1 4), S18)
  )
set_option maxHeartbeats 4000000 in
set_option maxRecDepth 100000 in
theorem Lt_tram_c (l : Launch) (cf : gm_C) (ad : Nat → Nat) {fl : Nat}    {S : gm_M} {r : Int32} {S'  : gm_M} (hf : Lt_tram fl S = some (r, S')) : gm_Met l yX10_tram cX10_tram 2 (some .int) 6 132 cf ad gm_sC 106 [.ref (ad 0)] S (some (.int r)) S' := by
  refine gm_met (by decide +kernel) (Nat.le_of_ble_eq_true rfl) ?_
  intro p e s m args below meth c C hr
  have C : gm_F p s m args meth c cf ad 106 cX10_tram 2 RX10 := C
  refine gm_lve (lv' := [(0, .ref (ad 0))]) rfl ?_
  unfold Lt_tram at hf
  refine gm_aload_n C dX10_tram_0 rfl 0 rfl ?_
  refine gm_getr (j := 1) (u := 1) C (Nat.le_of_ble_eq_true rfl) rfl kc_10 (k := 0) rfl (by decide) rfl rfl wl_328 dX10_tram_1 ?_
  obtain ⟨S1, eS1, hf⟩ := gm_bp1_s hf
  refine gm_callVv (As := []) C (Rd_readText_c l cf ad eS1) (Nat.le_of_ble_eq_true rfl) rfl kc_5 wy_Rd_readText rfl wl_370 rfl ⟨(Nat.le_of_ble_eq_true rfl), (Nat.le_of_ble_eq_true rfl)⟩ rfl (Nat.le_of_ble_eq_true rfl) dX10_tram_4 ?_
  refine gm_aload_n C dX10_tram_7 rfl 0 rfl ?_
  refine gm_getr (j := 1) (u := 1) C (Nat.le_of_ble_eq_true rfl) rfl kc_10 (k := 0) rfl (by decide) rfl rfl wl_328 dX10_tram_8 ?_
  refine gm_getr (j := 1) (u := 2) C (Nat.le_of_ble_eq_true rfl) rfl kc_5 (k := 0) rfl (by decide) rfl rfl wl_150 dX10_tram_11 ?_
  refine gm_iconst (v := 0) C dX10_tram_14 (by decide) ?_
  refine gm_puti C (Nat.le_of_ble_eq_true rfl) rfl kc_7 (k := 1) rfl (by decide) rfl rfl (kc_7.2.2.2.1 1 (by decide)) rfl rfl wl_90 dX10_tram_15 ?_
  obtain ⟨S2, eS2, hf⟩ := gm_lt_s hf
  refine gm_topm eS2 ?_
  refine gm_aload_n C dX10_tram_18 rfl 0 rfl ?_
  refine gm_getr (j := 1) (u := 1) C (Nat.le_of_ble_eq_true rfl) rfl kc_10 (k := 0) rfl (by decide) rfl rfl wl_328 dX10_tram_19 ?_
  refine gm_geti C (Nat.le_of_ble_eq_true rfl) rfl kc_5 (k := 4) rfl (by decide) rfl wl_156 dX10_tram_22 ?_
  refine gm_if_eq C 50 dX10_tram_25 (by decide) (fun c3 => ?_) (fun c3 => ?_)
  · have hf := gm_it _ c3 hf
    refine gm_aload_n C dX10_tram_50 rfl 0 rfl ?_
    refine gm_iconst (v := (-1)) C dX10_tram_51 (by decide) ?_
    refine gm_puti C (Nat.le_of_ble_eq_true rfl) rfl kc_10 (k := 8) rfl (by decide) rfl rfl (kc_10.2.2.2.1 8 (by decide)) rfl rfl wl_336 dX10_tram_52 ?_
    obtain ⟨S4, eS4, hf⟩ := gm_lt_s hf
    refine gm_topm eS4 ?_
    refine gm_aload_n C dX10_tram_55 rfl 0 rfl ?_
    refine gm_getr (j := 8) (u := 8) C (Nat.le_of_ble_eq_true rfl) rfl kc_10 (k := 1) rfl (by decide) rfl rfl wl_329 dX10_tram_56 ?_
    refine gm_aload_n C dX10_tram_59 rfl 0 rfl ?_
    refine gm_getr (j := 1) (u := 1) C (Nat.le_of_ble_eq_true rfl) rfl kc_10 (k := 0) rfl (by decide) rfl rfl wl_328 dX10_tram_60 ?_
    refine gm_getr (j := 3) (u := 4) C (Nat.le_of_ble_eq_true rfl) rfl kc_5 (k := 1) rfl (by decide) rfl rfl wl_152 dX10_tram_63 ?_
    obtain ⟨S5, eS5, hf⟩ := gm_bp1_s hf
    refine gm_callVv (As := [.ref (ad 4)]) C (Tr_copyFrom_c l cf ad gm_tr_8 gm_tr_4 eS5) (Nat.le_of_ble_eq_true rfl) rfl kc_9 wy_Tr_copyFrom rfl wl_473 rfl ⟨(Nat.le_of_ble_eq_true rfl), (Nat.le_of_ble_eq_true rfl)⟩ rfl (Nat.le_of_ble_eq_true rfl) dX10_tram_66 ?_
    refine gm_aload_n C dX10_tram_69 rfl 0 rfl ?_
    refine gm_getr (j := 12) (u := 12) C (Nat.le_of_ble_eq_true rfl) rfl kc_10 (k := 2) rfl (by decide) rfl rfl wl_330 dX10_tram_70 ?_
    refine gm_aload_n C dX10_tram_73 rfl 0 rfl ?_
    refine gm_getr (j := 8) (u := 8) C (Nat.le_of_ble_eq_true rfl) rfl kc_10 (k := 1) rfl (by decide) rfl rfl wl_329 dX10_tram_74 ?_
    obtain ⟨S6, eS6, hf⟩ := gm_bp1_s hf
    refine gm_callVv (As := [.ref (ad 8)]) C (Tb_follow_c l cf ad eS6) (Nat.le_of_ble_eq_true rfl) rfl kc_3 wy_Tb_follow rfl wl_480 rfl ⟨(Nat.le_of_ble_eq_true rfl), (Nat.le_of_ble_eq_true rfl)⟩ rfl (Nat.le_of_ble_eq_true rfl) dX10_tram_77 ?_
    refine gm_aload_n C dX10_tram_80 rfl 0 rfl ?_
    refine gm_getr (j := 22) (u := 22) C (Nat.le_of_ble_eq_true rfl) rfl kc_10 (k := 3) rfl (by decide) rfl rfl wl_331 dX10_tram_81 ?_
    refine gm_iconst (v := 0) C dX10_tram_84 (by decide) ?_
    refine gm_puti C (Nat.le_of_ble_eq_true rfl) rfl kc_4 (k := 2) rfl (by decide) rfl rfl (kc_4.2.2.2.1 2 (by decide)) rfl rfl wl_247 dX10_tram_85 ?_
    obtain ⟨S7, eS7, hf⟩ := gm_lt_s hf
    refine gm_topm eS7 ?_
    refine gm_aload_n C dX10_tram_88 rfl 0 rfl ?_
    refine gm_getr (j := 88) (u := 88) C (Nat.le_of_ble_eq_true rfl) rfl kc_10 (k := 4) rfl (by decide) rfl rfl wl_332 dX10_tram_89 ?_
    refine gm_aload_n C dX10_tram_92 rfl 0 rfl ?_
    refine gm_getr (j := 8) (u := 8) C (Nat.le_of_ble_eq_true rfl) rfl kc_10 (k := 1) rfl (by decide) rfl rfl wl_329 dX10_tram_93 ?_
    refine gm_geti C (Nat.le_of_ble_eq_true rfl) rfl kc_9 (k := 3) rfl (by decide) rfl wl_111 dX10_tram_96 ?_
    obtain ⟨S8, eS8, hf⟩ := gm_bp1_s hf
    refine gm_callVv (As := [.int (S7.1 8 3)]) C (Gs_forget_c l cf ad eS8) (Nat.le_of_ble_eq_true rfl) rfl kc_1 wy_Gs_forget rfl wl_539 rfl ⟨(Nat.le_of_ble_eq_true rfl), (Nat.le_of_ble_eq_true rfl)⟩ rfl (Nat.le_of_ble_eq_true rfl) dX10_tram_99 ?_
    refine gm_aload_n C dX10_tram_102 rfl 0 rfl ?_
    refine gm_getr (j := 92) (u := 92) C (Nat.le_of_ble_eq_true rfl) rfl kc_10 (k := 5) rfl (by decide) rfl rfl wl_333 dX10_tram_103 ?_
    refine gm_iconst (v := 0) C dX10_tram_106 (by decide) ?_
    refine gm_puti C (Nat.le_of_ble_eq_true rfl) rfl kc_0 (k := 2) rfl (by decide) rfl rfl (kc_0.2.2.2.1 2 (by decide)) rfl rfl wl_299 dX10_tram_107 ?_
    obtain ⟨S9, eS9, hf⟩ := gm_lt_s hf
    refine gm_topm eS9 ?_
    refine gm_iconst (v := 0) C dX10_tram_110 (by decide) ?_
    refine gm_istore_n (lv' := [(1, .int 0), (0, .ref (ad 0))]) C dX10_tram_111 rfl (by decide) rfl ?_
    have L112 : ∀ (n : Nat) (y10 : Int32) (S11 : gm_M) (S12 : gm_M), Lt_tram_L112  n y10 S11 = some (S12) → gm_G p l e { frames := 6, cells := 0, slots := 0, locals := 132 } s m args below meth c (MQ below (gm_Q cf ad gm_sC 106 (some (.int r)) S') args s 0 0 (gm_A ad 106)) cf ad gm_sC 106 2 S12 133 [(0, .ref (ad 0))] [] → gm_G p l e { frames := 6, cells := 0, slots := 0, locals := 132 } s m args below meth c (MQ below (gm_Q cf ad gm_sC 106 (some (.int r)) S') args s 0 0 (gm_A ad 106)) cf ad gm_sC 106 2 S11 112 [(0, .ref (ad 0)), (1, .int y10)] [] := by
      intro n
      induction n with
      | zero => intro y10 S11 S12 hf K; cases (show (none : Option _) = some _ from hf)
      | succ n ih =>
        intro y10 S11 S12 hf K
        have hf : Lt_tram_L112_b  (Lt_tram_L112  n) y10 S11 = some (S12) := hf
        unfold Lt_tram_L112_b at hf
        refine gm_iload_n C dX10_tram_112 rfl 1 rfl ?_
        refine gm_iconst (v := 2) C dX10_tram_113 (by decide) ?_
        refine gm_icmp_ge C 133 dX10_tram_114 (by decide) (fun c13 => ?_) (fun c13 => ?_)
        · have hf := gm_it _ c13 hf
          cases hf
          exact gm_lvp [0] rfl K
        · have hf := gm_if _ c13 hf
          refine gm_aload_n C dX10_tram_117 rfl 0 rfl ?_
          refine gm_getr (j := 95) (u := 95) C (Nat.le_of_ble_eq_true rfl) rfl kc_10 (k := 6) rfl (by decide) rfl rfl wl_334 dX10_tram_118 ?_
          refine gm_iload_n C dX10_tram_121 rfl 1 rfl ?_
          obtain ⟨h14, hf⟩ := gm_ck_s hf
          refine gm_aald (k := 6) C (Nat.le_of_ble_eq_true rfl) rfl (by decide) rfl rfl h14 dX10_tram_122 ?_
          have h15 := gm_of_im h14
          refine gm_iconst (v := 0) C dX10_tram_123 (by decide) ?_
          refine gm_puti C (gm_im_l0 h15) (gm_im_k0 h15) kc_2 (k := 1) rfl (by decide) rfl rfl (kc_2.2.2.2.1 1 (by decide)) rfl rfl wl_319 dX10_tram_124 ?_
          obtain ⟨S16, eS16, hf⟩ := gm_lt_s hf
          refine gm_topm eS16 ?_
          obtain ⟨x17, ex17, hf⟩ := gm_lt_s hf
          refine gm_iinc (v := x17) (lv' := [(1, .int x17), (0, .ref (ad 0))]) (j := 1) C dX10_tram_127 rfl (by rw [ex17]; rfl) (by decide) rfl ?_
          refine gm_goto C 112 dX10_tram_130 (by decide) ?_
          exact gm_lvp [1, 0] rfl (ih _ _ _ hf K)
    obtain ⟨S12, hx, hf⟩ := gm_bp1_s hf
    refine gm_lvp [1, 0] rfl (L112 fl _ _ _ hx ?_)
    refine gm_aload_n C dX10_tram_133 rfl 0 rfl ?_
    refine gm_getr (j := 8) (u := 8) C (Nat.le_of_ble_eq_true rfl) rfl kc_10 (k := 1) rfl (by decide) rfl rfl wl_329 dX10_tram_134 ?_
    refine gm_geti C (Nat.le_of_ble_eq_true rfl) rfl kc_9 (k := 8) rfl (by decide) rfl wl_127 dX10_tram_137 ?_
    exact gm_iret C hr rfl dX10_tram_140 hf
  · have hf := gm_if _ c3 hf
    refine gm_aload_n C dX10_tram_28 rfl 0 rfl ?_
    refine gm_aload_n C dX10_tram_29 rfl 0 rfl ?_
    refine gm_getr (j := 1) (u := 1) C (Nat.le_of_ble_eq_true rfl) rfl kc_10 (k := 0) rfl (by decide) rfl rfl wl_328 dX10_tram_30 ?_
    refine gm_geti C (Nat.le_of_ble_eq_true rfl) rfl kc_5 (k := 5) rfl (by decide) rfl wl_158 dX10_tram_33 ?_
    refine gm_puti C (Nat.le_of_ble_eq_true rfl) rfl kc_10 (k := 8) rfl (by decide) rfl rfl (kc_10.2.2.2.1 8 (by decide)) rfl rfl wl_336 dX10_tram_36 ?_
    obtain ⟨S18, eS18, hf⟩ := gm_lt_s hf
    refine gm_topm eS18 ?_
    refine gm_bipush (v := (-10)) C dX10_tram_39 (by decide) ?_
    refine gm_aload_n C dX10_tram_41 rfl 0 rfl ?_
    refine gm_getr (j := 1) (u := 1) C (Nat.le_of_ble_eq_true rfl) rfl kc_10 (k := 0) rfl (by decide) rfl rfl wl_328 dX10_tram_42 ?_
    refine gm_geti C (Nat.le_of_ble_eq_true rfl) rfl kc_5 (k := 4) rfl (by decide) rfl wl_156 dX10_tram_45 ?_
    refine gm_isub C dX10_tram_48 ?_
    exact gm_iret C hr rfl dX10_tram_49 hf
theorem dX10_fault_0 : decode cX10_fault 0 = .ok (.aload_n 0, 1) := by decide +kernel
theorem dX10_fault_1 : decode cX10_fault 1 = .ok (.getfield 57, 3) := by decide +kernel
theorem dX10_fault_4 : decode cX10_fault 4 = .ok (.ireturn, 1) := by decide +kernel
def Lt_fault (S : gm_M) : Option Int32 :=
  some (S.1 0 8)
set_option maxHeartbeats 4000000 in
set_option maxRecDepth 100000 in
theorem Lt_fault_c (l : Launch) (cf : gm_C) (ad : Nat → Nat)     {S : gm_M} {r : Int32}  (hf : Lt_fault S = some r) : gm_Met l yX10_fault cX10_fault 1 (some .int) 0 0 cf ad gm_sC 106 [.ref (ad 0)] S (some (.int r)) S := by
  refine gm_met (by decide +kernel) (Nat.le_of_ble_eq_true rfl) ?_
  intro p e s m args below meth c C hr
  have C : gm_F p s m args meth c cf ad 106 cX10_fault 1 RX10 := C
  refine gm_lve (lv' := [(0, .ref (ad 0))]) rfl ?_
  unfold Lt_fault at hf
  refine gm_aload_n C dX10_fault_0 rfl 0 rfl ?_
  refine gm_geti C (Nat.le_of_ble_eq_true rfl) rfl kc_10 (k := 8) rfl (by decide) rfl wl_336 dX10_fault_1 ?_
  exact gm_iretK C hr rfl dX10_fault_4 hf
theorem dX9_ticketsLeft_0 : decode cX9_ticketsLeft 0 = .ok (.aload_n 0, 1) := by decide +kernel
theorem dX9_ticketsLeft_1 : decode cX9_ticketsLeft 1 = .ok (.getfield 15, 3) := by decide +kernel
theorem dX9_ticketsLeft_4 : decode cX9_ticketsLeft 4 = .ok (.iload_n 1, 1) := by decide +kernel
theorem dX9_ticketsLeft_5 : decode cX9_ticketsLeft 5 = .ok (.iconst 2, 1) := by decide +kernel
theorem dX9_ticketsLeft_6 : decode cX9_ticketsLeft 6 = .ok (.imul, 1) := by decide +kernel
theorem dX9_ticketsLeft_7 : decode cX9_ticketsLeft 7 = .ok (.iconst 1, 1) := by decide +kernel
theorem dX9_ticketsLeft_8 : decode cX9_ticketsLeft 8 = .ok (.iadd, 1) := by decide +kernel
theorem dX9_ticketsLeft_9 : decode cX9_ticketsLeft 9 = .ok (.iaload, 1) := by decide +kernel
theorem dX9_ticketsLeft_10 : decode cX9_ticketsLeft 10 = .ok (.ireturn, 1) := by decide +kernel
def Tr_ticketsLeft (t : Nat) (a0 : Int32) (S : gm_M) : Option Int32 :=
  gm_ck ((a0 * 2) + 1) 8 <|
  some (S.1 (t + 2) ((a0 * 2) + 1).toNatClampNeg)
set_option maxHeartbeats 4000000 in
set_option maxRecDepth 100000 in
theorem Tr_ticketsLeft_c (l : Launch) (cf : gm_C) (ad : Nat → Nat)  {t : Nat} (ht : gm_isTr t) {a0 : Int32} {S : gm_M} {r : Int32}  (hf : Tr_ticketsLeft t a0 S = some r) : gm_Met l yX9_ticketsLeft cX9_ticketsLeft 2 (some .int) 0 0 cf ad gm_sC 106 [.ref (ad t), .int a0] S (some (.int r)) S := by
  refine gm_met (by decide +kernel) (Nat.le_of_ble_eq_true rfl) ?_
  intro p e s m args below meth c C hr
  have C : gm_F p s m args meth c cf ad 106 cX9_ticketsLeft 2 RX9 := C
  refine gm_lve (lv' := [(0, .ref (ad t)), (1, .int a0)]) rfl ?_
  unfold Tr_ticketsLeft at hf
  refine gm_aload_n C dX9_ticketsLeft_0 rfl 0 rfl ?_
  refine gm_getr (j := 2) (u := (t + 2)) C (gm_tr_l0 ht) (gm_tr_k0 ht) kc_9 (k := 1) rfl (by decide) rfl rfl wl_107 dX9_ticketsLeft_1 ?_
  refine gm_iload_n C dX9_ticketsLeft_4 rfl 1 rfl ?_
  refine gm_iconst (v := 2) C dX9_ticketsLeft_5 (by decide) ?_
  refine gm_imul C dX9_ticketsLeft_6 ?_
  refine gm_iconst (v := 1) C dX9_ticketsLeft_7 (by decide) ?_
  refine gm_iadd C dX9_ticketsLeft_8 ?_
  obtain ⟨h1, hf⟩ := gm_ck_s hf
  refine gm_iald C (gm_tr_l2 ht) (gm_tr_k2 ht) (gm_tr_n2 ht) h1 dX9_ticketsLeft_9 ?_
  exact gm_iretK C hr rfl dX9_ticketsLeft_10 hf
theorem dX9_nextTicket_0 : decode cX9_nextTicket 0 = .ok (.aload_n 0, 1) := by decide +kernel
theorem dX9_nextTicket_1 : decode cX9_nextTicket 1 = .ok (.getfield 15, 3) := by decide +kernel
theorem dX9_nextTicket_4 : decode cX9_nextTicket 4 = .ok (.iload_n 1, 1) := by decide +kernel
theorem dX9_nextTicket_5 : decode cX9_nextTicket 5 = .ok (.iconst 2, 1) := by decide +kernel
theorem dX9_nextTicket_6 : decode cX9_nextTicket 6 = .ok (.imul, 1) := by decide +kernel
theorem dX9_nextTicket_7 : decode cX9_nextTicket 7 = .ok (.iaload, 1) := by decide +kernel
theorem dX9_nextTicket_8 : decode cX9_nextTicket 8 = .ok (.ireturn, 1) := by decide +kernel
def Tr_nextTicket (t : Nat) (a0 : Int32) (S : gm_M) : Option Int32 :=
  gm_ck (a0 * 2) 8 <|
  some (S.1 (t + 2) (a0 * 2).toNatClampNeg)
set_option maxHeartbeats 4000000 in
set_option maxRecDepth 100000 in
theorem Tr_nextTicket_c (l : Launch) (cf : gm_C) (ad : Nat → Nat)  {t : Nat} (ht : gm_isTr t) {a0 : Int32} {S : gm_M} {r : Int32}  (hf : Tr_nextTicket t a0 S = some r) : gm_Met l yX9_nextTicket cX9_nextTicket 2 (some .int) 0 0 cf ad gm_sC 106 [.ref (ad t), .int a0] S (some (.int r)) S := by
  refine gm_met (by decide +kernel) (Nat.le_of_ble_eq_true rfl) ?_
  intro p e s m args below meth c C hr
  have C : gm_F p s m args meth c cf ad 106 cX9_nextTicket 2 RX9 := C
  refine gm_lve (lv' := [(0, .ref (ad t)), (1, .int a0)]) rfl ?_
  unfold Tr_nextTicket at hf
  refine gm_aload_n C dX9_nextTicket_0 rfl 0 rfl ?_
  refine gm_getr (j := 2) (u := (t + 2)) C (gm_tr_l0 ht) (gm_tr_k0 ht) kc_9 (k := 1) rfl (by decide) rfl rfl wl_107 dX9_nextTicket_1 ?_
  refine gm_iload_n C dX9_nextTicket_4 rfl 1 rfl ?_
  refine gm_iconst (v := 2) C dX9_nextTicket_5 (by decide) ?_
  refine gm_imul C dX9_nextTicket_6 ?_
  obtain ⟨h1, hf⟩ := gm_ck_s hf
  refine gm_iald C (gm_tr_l2 ht) (gm_tr_k2 ht) (gm_tr_n2 ht) h1 dX9_nextTicket_7 ?_
  exact gm_iretK C hr rfl dX9_nextTicket_8 hf
theorem dX3_isLucky_0 : decode cX3_isLucky 0 = .ok (.iload_n 1, 1) := by decide +kernel
theorem dX3_isLucky_1 : decode cX3_isLucky 1 = .ok (.ifCond .lt 36, 3) := by decide +kernel
theorem dX3_isLucky_4 : decode cX3_isLucky 4 = .ok (.iload_n 1, 1) := by decide +kernel
theorem dX3_isLucky_5 : decode cX3_isLucky 5 = .ok (.aload_n 0, 1) := by decide +kernel
theorem dX3_isLucky_6 : decode cX3_isLucky 6 = .ok (.getfield 42, 3) := by decide +kernel
theorem dX3_isLucky_9 : decode cX3_isLucky 9 = .ok (.if_icmp .ge 28, 3) := by decide +kernel
theorem dX3_isLucky_12 : decode cX3_isLucky 12 = .ok (.aload_n 0, 1) := by decide +kernel
theorem dX3_isLucky_13 : decode cX3_isLucky 13 = .ok (.getfield 20, 3) := by decide +kernel
theorem dX3_isLucky_16 : decode cX3_isLucky 16 = .ok (.iload_n 1, 1) := by decide +kernel
theorem dX3_isLucky_17 : decode cX3_isLucky 17 = .ok (.bipush 6, 2) := by decide +kernel
theorem dX3_isLucky_19 : decode cX3_isLucky 19 = .ok (.ishr, 1) := by decide +kernel
theorem dX3_isLucky_20 : decode cX3_isLucky 20 = .ok (.laload, 1) := by decide +kernel
theorem dX3_isLucky_21 : decode cX3_isLucky 21 = .ok (.iload_n 1, 1) := by decide +kernel
theorem dX3_isLucky_22 : decode cX3_isLucky 22 = .ok (.bipush 63, 2) := by decide +kernel
theorem dX3_isLucky_24 : decode cX3_isLucky 24 = .ok (.iand, 1) := by decide +kernel
theorem dX3_isLucky_25 : decode cX3_isLucky 25 = .ok (.lshr, 1) := by decide +kernel
theorem dX3_isLucky_26 : decode cX3_isLucky 26 = .ok (.lconst 1, 1) := by decide +kernel
theorem dX3_isLucky_27 : decode cX3_isLucky 27 = .ok (.land, 1) := by decide +kernel
theorem dX3_isLucky_28 : decode cX3_isLucky 28 = .ok (.lconst 0, 1) := by decide +kernel
theorem dX3_isLucky_29 : decode cX3_isLucky 29 = .ok (.lcmp, 1) := by decide +kernel
theorem dX3_isLucky_30 : decode cX3_isLucky 30 = .ok (.ifCond .eq 7, 3) := by decide +kernel
theorem dX3_isLucky_33 : decode cX3_isLucky 33 = .ok (.iconst 1, 1) := by decide +kernel
theorem dX3_isLucky_34 : decode cX3_isLucky 34 = .ok (.goto 4, 3) := by decide +kernel
theorem dX3_isLucky_37 : decode cX3_isLucky 37 = .ok (.iconst 0, 1) := by decide +kernel
theorem dX3_isLucky_38 : decode cX3_isLucky 38 = .ok (.ireturn, 1) := by decide +kernel
def Tb_isLucky (a0 : Int32) (S : gm_M) : Option Int32 :=
  if a0 < 0 then (
    some (0)
  ) else (
    if S.1 12 5 ≤ a0 then (
      some (0)
    ) else (
      gm_ck (a0 >>> (6 &&& 31)) 157 <|
      if lg_cmp (((S.2 19 (a0 >>> (6 &&& 31)).toNatClampNeg) >>> ((a0 &&& 63 : Int32).toInt64 &&& 63)) &&& 1) 0 = 0 then (
        some (0)
      ) else (
        some (1)
      )
    )
  )
set_option maxHeartbeats 4000000 in
set_option maxRecDepth 100000 in
theorem Tb_isLucky_c (l : Launch) (cf : gm_C) (ad : Nat → Nat)    {a0 : Int32} {S : gm_M} {r : Int32}  (hf : Tb_isLucky a0 S = some r) : gm_Met l yX3_isLucky cX3_isLucky 2 (some .boolean) 0 0 cf ad gm_sC 106 [.ref (ad 12), .int a0] S (some (.int r)) S := by
  refine gm_met (by decide +kernel) (Nat.le_of_ble_eq_true rfl) ?_
  intro p e s m args below meth c C hr
  have C : gm_F p s m args meth c cf ad 106 cX3_isLucky 2 RX3 := C
  refine gm_lve (lv' := [(0, .ref (ad 12)), (1, .int a0)]) rfl ?_
  unfold Tb_isLucky at hf
  refine gm_iload_n C dX3_isLucky_0 rfl 1 rfl ?_
  refine gm_if_lt C 37 dX3_isLucky_1 (by decide) (fun c1 => ?_) (fun c1 => ?_)
  · have hf := gm_it _ c1 hf
    refine gm_iconst (v := 0) C dX3_isLucky_37 (by decide) ?_
    exact gm_iretK C hr rfl dX3_isLucky_38 hf
  · have hf := gm_if _ c1 hf
    refine gm_iload_n C dX3_isLucky_4 rfl 1 rfl ?_
    refine gm_aload_n C dX3_isLucky_5 rfl 0 rfl ?_
    refine gm_geti C (Nat.le_of_ble_eq_true rfl) rfl kc_3 (k := 5) rfl (by decide) rfl wl_208 dX3_isLucky_6 ?_
    refine gm_icmp_ge C 37 dX3_isLucky_9 (by decide) (fun c2 => ?_) (fun c2 => ?_)
    · have hf := gm_it _ c2 hf
      refine gm_iconst (v := 0) C dX3_isLucky_37 (by decide) ?_
      exact gm_iretK C hr rfl dX3_isLucky_38 hf
    · have hf := gm_if _ c2 hf
      refine gm_aload_n C dX3_isLucky_12 rfl 0 rfl ?_
      refine gm_getr (j := 7) (u := 19) C (Nat.le_of_ble_eq_true rfl) rfl kc_3 (k := 2) rfl (by decide) rfl rfl wl_205 dX3_isLucky_13 ?_
      refine gm_iload_n C dX3_isLucky_16 rfl 1 rfl ?_
      refine gm_bipush (v := 6) C dX3_isLucky_17 (by decide) ?_
      refine gm_ishr C dX3_isLucky_19 ?_
      obtain ⟨h3, hf⟩ := gm_ck_s hf
      refine gm_lald C (Nat.le_of_ble_eq_true rfl) rfl rfl h3 dX3_isLucky_20 ?_
      refine gm_iload_n C dX3_isLucky_21 rfl 1 rfl ?_
      refine gm_bipush (v := 63) C dX3_isLucky_22 (by decide) ?_
      refine gm_iand C dX3_isLucky_24 ?_
      refine gm_lshr C dX3_isLucky_25 rfl ?_
      refine gm_lconst (v := 1) C dX3_isLucky_26 (by decide) ?_
      refine gm_land C dX3_isLucky_27 ?_
      refine gm_lconst (v := 0) C dX3_isLucky_28 (by decide) ?_
      refine gm_lcmp C dX3_isLucky_29 ?_
      refine gm_if_eq C 37 dX3_isLucky_30 (by decide) (fun c4 => ?_) (fun c4 => ?_)
      · have hf := gm_it _ c4 hf
        refine gm_iconst (v := 0) C dX3_isLucky_37 (by decide) ?_
        exact gm_iretK C hr rfl dX3_isLucky_38 hf
      · have hf := gm_if _ c4 hf
        refine gm_iconst (v := 1) C dX3_isLucky_33 (by decide) ?_
        refine gm_goto C 38 dX3_isLucky_34 (by decide) ?_
        exact gm_iretK C hr rfl dX3_isLucky_38 hf
theorem dX9_behind_0 : decode cX9_behind 0 = .ok (.iload_n 1, 1) := by decide +kernel
theorem dX9_behind_1 : decode cX9_behind 1 = .ok (.iconst 1, 1) := by decide +kernel
theorem dX9_behind_2 : decode cX9_behind 2 = .ok (.iadd, 1) := by decide +kernel
theorem dX9_behind_3 : decode cX9_behind 3 = .ok (.aload_n 0, 1) := by decide +kernel
theorem dX9_behind_4 : decode cX9_behind 4 = .ok (.invokevirtual 50, 3) := by decide +kernel
theorem dX9_behind_7 : decode cX9_behind 7 = .ok (.if_icmp .ge 9, 3) := by decide +kernel
theorem dX9_behind_10 : decode cX9_behind 10 = .ok (.iload_n 1, 1) := by decide +kernel
theorem dX9_behind_11 : decode cX9_behind 11 = .ok (.iconst 1, 1) := by decide +kernel
theorem dX9_behind_12 : decode cX9_behind 12 = .ok (.iadd, 1) := by decide +kernel
theorem dX9_behind_13 : decode cX9_behind 13 = .ok (.goto 4, 3) := by decide +kernel
theorem dX9_behind_16 : decode cX9_behind 16 = .ok (.iconst 0, 1) := by decide +kernel
theorem dX9_behind_17 : decode cX9_behind 17 = .ok (.ireturn, 1) := by decide +kernel
def Tr_behind (fl : Nat) (t : Nat) (a0 : Int32) (S : gm_M) : Option Int32 :=
  gm_bp1 (Tr_numbers fl t S) fun v1 =>
  if v1 ≤ a0 + 1 then (
    some (0)
  ) else (
    some (a0 + 1)
  )
set_option maxHeartbeats 4000000 in
set_option maxRecDepth 100000 in
theorem Tr_behind_c (l : Launch) (cf : gm_C) (ad : Nat → Nat) {fl : Nat} {t : Nat} (ht : gm_isTr t) {a0 : Int32} {S : gm_M} {r : Int32}  (hf : Tr_behind fl t a0 S = some r) : gm_Met l yX9_behind cX9_behind 2 (some .int) 1 22 cf ad gm_sC 106 [.ref (ad t), .int a0] S (some (.int r)) S := by
  refine gm_met (by decide +kernel) (Nat.le_of_ble_eq_true rfl) ?_
  intro p e s m args below meth c C hr
  have C : gm_F p s m args meth c cf ad 106 cX9_behind 2 RX9 := C
  refine gm_lve (lv' := [(0, .ref (ad t)), (1, .int a0)]) rfl ?_
  unfold Tr_behind at hf
  refine gm_iload_n C dX9_behind_0 rfl 1 rfl ?_
  refine gm_iconst (v := 1) C dX9_behind_1 (by decide) ?_
  refine gm_iadd C dX9_behind_2 ?_
  refine gm_aload_n C dX9_behind_3 rfl 0 rfl ?_
  obtain ⟨v1, ev1, hf⟩ := gm_bp1_s hf
  refine gm_callVi (As := []) C (Tr_numbers_c l cf ad ht ev1) (gm_tr_l0 ht) (gm_tr_k0 ht) kc_9 wy_Tr_numbers rfl wl_583 rfl ⟨(Nat.le_of_ble_eq_true rfl), (Nat.le_of_ble_eq_true rfl)⟩ rfl (Nat.le_of_ble_eq_true rfl) dX9_behind_4 ?_
  refine gm_icmp_ge C 16 dX9_behind_7 (by decide) (fun c2 => ?_) (fun c2 => ?_)
  · have hf := gm_it _ c2 hf
    refine gm_iconst (v := 0) C dX9_behind_16 (by decide) ?_
    exact gm_iretK C hr rfl dX9_behind_17 hf
  · have hf := gm_if _ c2 hf
    refine gm_iload_n C dX9_behind_10 rfl 1 rfl ?_
    refine gm_iconst (v := 1) C dX9_behind_11 (by decide) ?_
    refine gm_iadd C dX9_behind_12 ?_
    refine gm_goto C 17 dX9_behind_13 (by decide) ?_
    exact gm_iretK C hr rfl dX9_behind_17 hf
theorem dX10_soonFrom_0 : decode cX10_soonFrom 0 = .ok (.aload_n 0, 1) := by decide +kernel
theorem dX10_soonFrom_1 : decode cX10_soonFrom 1 = .ok (.getfield 19, 3) := by decide +kernel
theorem dX10_soonFrom_4 : decode cX10_soonFrom 4 = .ok (.iload_n 1, 1) := by decide +kernel
theorem dX10_soonFrom_5 : decode cX10_soonFrom 5 = .ok (.invokevirtual 170, 3) := by decide +kernel
theorem dX10_soonFrom_8 : decode cX10_soonFrom 8 = .ok (.istore_n 2, 1) := by decide +kernel
theorem dX10_soonFrom_9 : decode cX10_soonFrom 9 = .ok (.aload_n 0, 1) := by decide +kernel
theorem dX10_soonFrom_10 : decode cX10_soonFrom 10 = .ok (.getfield 19, 3) := by decide +kernel
theorem dX10_soonFrom_13 : decode cX10_soonFrom 13 = .ok (.iload_n 1, 1) := by decide +kernel
theorem dX10_soonFrom_14 : decode cX10_soonFrom 14 = .ok (.invokevirtual 167, 3) := by decide +kernel
theorem dX10_soonFrom_17 : decode cX10_soonFrom 17 = .ok (.istore_n 3, 1) := by decide +kernel
theorem dX10_soonFrom_18 : decode cX10_soonFrom 18 = .ok (.iconst 0, 1) := by decide +kernel
theorem dX10_soonFrom_19 : decode cX10_soonFrom 19 = .ok (.istore 4, 2) := by decide +kernel
theorem dX10_soonFrom_21 : decode cX10_soonFrom 21 = .ok (.iload 4, 2) := by decide +kernel
theorem dX10_soonFrom_23 : decode cX10_soonFrom 23 = .ok (.iload_n 2, 1) := by decide +kernel
theorem dX10_soonFrom_24 : decode cX10_soonFrom 24 = .ok (.if_icmp .ge 32, 3) := by decide +kernel
theorem dX10_soonFrom_27 : decode cX10_soonFrom 27 = .ok (.aload_n 0, 1) := by decide +kernel
theorem dX10_soonFrom_28 : decode cX10_soonFrom 28 = .ok (.getfield 26, 3) := by decide +kernel
theorem dX10_soonFrom_31 : decode cX10_soonFrom 31 = .ok (.iload_n 3, 1) := by decide +kernel
theorem dX10_soonFrom_32 : decode cX10_soonFrom 32 = .ok (.invokevirtual 198, 3) := by decide +kernel
theorem dX10_soonFrom_35 : decode cX10_soonFrom 35 = .ok (.ifCond .eq 6, 3) := by decide +kernel
theorem dX10_soonFrom_38 : decode cX10_soonFrom 38 = .ok (.iload 4, 2) := by decide +kernel
theorem dX10_soonFrom_40 : decode cX10_soonFrom 40 = .ok (.ireturn, 1) := by decide +kernel
theorem dX10_soonFrom_41 : decode cX10_soonFrom 41 = .ok (.aload_n 0, 1) := by decide +kernel
theorem dX10_soonFrom_42 : decode cX10_soonFrom 42 = .ok (.getfield 19, 3) := by decide +kernel
theorem dX10_soonFrom_45 : decode cX10_soonFrom 45 = .ok (.iload_n 3, 1) := by decide +kernel
theorem dX10_soonFrom_46 : decode cX10_soonFrom 46 = .ok (.invokevirtual 293, 3) := by decide +kernel
theorem dX10_soonFrom_49 : decode cX10_soonFrom 49 = .ok (.istore_n 3, 1) := by decide +kernel
theorem dX10_soonFrom_50 : decode cX10_soonFrom 50 = .ok (.iinc 4 1, 3) := by decide +kernel
theorem dX10_soonFrom_53 : decode cX10_soonFrom 53 = .ok (.goto (-32), 3) := by decide +kernel
theorem dX10_soonFrom_56 : decode cX10_soonFrom 56 = .ok (.iconst (-1), 1) := by decide +kernel
theorem dX10_soonFrom_57 : decode cX10_soonFrom 57 = .ok (.ireturn, 1) := by decide +kernel
def Lt_soonFrom_L21_b (fl : Nat) (S : gm_M) (v1 : Int32) (rec : Int32 → Int32 → Option Int32) (y3 : Int32) (y4 : Int32) : Option Int32 :=
  if v1 ≤ y4 then (
    some ((-1))
  ) else (
    gm_bp1 (Tb_isLucky y3 S) fun v6 =>
    if v6 = 0 then (
      gm_bp1 (Tr_behind fl 8 y3 S) fun v8 =>
      gm_lt (α := Int32) (y4 + 1) fun x9 =>
      rec v8 x9
    ) else (
      some (y4)
    )
  )
def Lt_soonFrom_L21 (fl : Nat) (S : gm_M) (v1 : Int32) : Nat → Int32 → Int32 → Option Int32
  | 0 => fun _ _ => none
  | n + 1 => Lt_soonFrom_L21_b fl S v1 (Lt_soonFrom_L21 fl S v1 n)
def Lt_soonFrom (fl : Nat) (a0 : Int32) (S : gm_M) : Option Int32 :=
  gm_bp1 (Tr_ticketsLeft 8 a0 S) fun v1 =>
  gm_bp1 (Tr_nextTicket 8 a0 S) fun v2 =>
  Lt_soonFrom_L21 fl S v1 fl v2 0
set_option maxHeartbeats 4000000 in
set_option maxRecDepth 100000 in
theorem Lt_soonFrom_c (l : Launch) (cf : gm_C) (ad : Nat → Nat) {fl : Nat}   {a0 : Int32} {S : gm_M} {r : Int32}  (hf : Lt_soonFrom fl a0 S = some r) : gm_Met l yX10_soonFrom cX10_soonFrom 5 (some .int) 2 43 cf ad gm_sC 106 [.ref (ad 0), .int a0] S (some (.int r)) S := by
  refine gm_met (by decide +kernel) (Nat.le_of_ble_eq_true rfl) ?_
  intro p e s m args below meth c C hr
  have C : gm_F p s m args meth c cf ad 106 cX10_soonFrom 5 RX10 := C
  refine gm_lve (lv' := [(0, .ref (ad 0)), (1, .int a0)]) rfl ?_
  unfold Lt_soonFrom at hf
  refine gm_aload_n C dX10_soonFrom_0 rfl 0 rfl ?_
  refine gm_getr (j := 8) (u := 8) C (Nat.le_of_ble_eq_true rfl) rfl kc_10 (k := 1) rfl (by decide) rfl rfl wl_329 dX10_soonFrom_1 ?_
  refine gm_iload_n C dX10_soonFrom_4 rfl 1 rfl ?_
  obtain ⟨v1, ev1, hf⟩ := gm_bp1_s hf
  refine gm_callVi (As := [.int a0]) C (Tr_ticketsLeft_c l cf ad gm_tr_8 ev1) (Nat.le_of_ble_eq_true rfl) rfl kc_9 wy_Tr_ticketsLeft rfl wl_567 rfl ⟨(Nat.le_of_ble_eq_true rfl), (Nat.le_of_ble_eq_true rfl)⟩ rfl (Nat.le_of_ble_eq_true rfl) dX10_soonFrom_5 ?_
  refine gm_istore_n (lv' := [(2, .int v1), (0, .ref (ad 0)), (1, .int a0)]) C dX10_soonFrom_8 rfl (by decide) rfl ?_
  refine gm_aload_n C dX10_soonFrom_9 rfl 1 rfl ?_
  refine gm_getr (j := 8) (u := 8) C (Nat.le_of_ble_eq_true rfl) rfl kc_10 (k := 1) rfl (by decide) rfl rfl wl_329 dX10_soonFrom_10 ?_
  refine gm_iload_n C dX10_soonFrom_13 rfl 2 rfl ?_
  obtain ⟨v2, ev2, hf⟩ := gm_bp1_s hf
  refine gm_callVi (As := [.int a0]) C (Tr_nextTicket_c l cf ad gm_tr_8 ev2) (Nat.le_of_ble_eq_true rfl) rfl kc_9 wy_Tr_nextTicket rfl wl_571 rfl ⟨(Nat.le_of_ble_eq_true rfl), (Nat.le_of_ble_eq_true rfl)⟩ rfl (Nat.le_of_ble_eq_true rfl) dX10_soonFrom_14 ?_
  refine gm_istore_n (lv' := [(3, .int v2), (2, .int v1), (0, .ref (ad 0)), (1, .int a0)]) C dX10_soonFrom_17 rfl (by decide) rfl ?_
  refine gm_iconst (v := 0) C dX10_soonFrom_18 (by decide) ?_
  refine gm_istore (lv' := [(4, .int 0), (3, .int v2), (2, .int v1), (0, .ref (ad 0)), (1, .int a0)]) C dX10_soonFrom_19 (by decide) rfl ?_
  have L21 : ∀ (n : Nat) (y3 : Int32) (y4 : Int32), Lt_soonFrom_L21 fl S v1 n y3 y4 = some r → gm_G p l e { frames := 2, cells := 0, slots := 0, locals := 43 } s m args below meth c (MQ below (gm_Q cf ad gm_sC 106 (some (.int r)) S) args s 0 0 (gm_A ad 106)) cf ad gm_sC 106 5 S 21 [(0, .ref (ad 0)), (2, .int v1), (3, .int y3), (4, .int y4)] [] := by
    intro n
    induction n with
    | zero => intro y3 y4 hf; cases (show (none : Option _) = some _ from hf)
    | succ n ih =>
      intro y3 y4 hf
      have hf : Lt_soonFrom_L21_b fl S v1 (Lt_soonFrom_L21 fl S v1 n) y3 y4 = some r := hf
      unfold Lt_soonFrom_L21_b at hf
      refine gm_iload C dX10_soonFrom_21 3 rfl ?_
      refine gm_iload_n C dX10_soonFrom_23 rfl 1 rfl ?_
      refine gm_icmp_ge C 56 dX10_soonFrom_24 (by decide) (fun c5 => ?_) (fun c5 => ?_)
      · have hf := gm_it _ c5 hf
        refine gm_iconst (v := (-1)) C dX10_soonFrom_56 (by decide) ?_
        exact gm_iretK C hr rfl dX10_soonFrom_57 hf
      · have hf := gm_if _ c5 hf
        refine gm_aload_n C dX10_soonFrom_27 rfl 0 rfl ?_
        refine gm_getr (j := 12) (u := 12) C (Nat.le_of_ble_eq_true rfl) rfl kc_10 (k := 2) rfl (by decide) rfl rfl wl_330 dX10_soonFrom_28 ?_
        refine gm_iload_n C dX10_soonFrom_31 rfl 2 rfl ?_
        obtain ⟨v6, ev6, hf⟩ := gm_bp1_s hf
        refine gm_callVi (As := [.int y3]) C (Tb_isLucky_c l cf ad ev6) (Nat.le_of_ble_eq_true rfl) rfl kc_3 wy_Tb_isLucky rfl wl_575 rfl ⟨(Nat.le_of_ble_eq_true rfl), (Nat.le_of_ble_eq_true rfl)⟩ rfl (Nat.le_of_ble_eq_true rfl) dX10_soonFrom_32 ?_
        refine gm_if_eq C 41 dX10_soonFrom_35 (by decide) (fun c7 => ?_) (fun c7 => ?_)
        · have hf := gm_it _ c7 hf
          refine gm_aload_n C dX10_soonFrom_41 rfl 0 rfl ?_
          refine gm_getr (j := 8) (u := 8) C (Nat.le_of_ble_eq_true rfl) rfl kc_10 (k := 1) rfl (by decide) rfl rfl wl_329 dX10_soonFrom_42 ?_
          refine gm_iload_n C dX10_soonFrom_45 rfl 2 rfl ?_
          obtain ⟨v8, ev8, hf⟩ := gm_bp1_s hf
          refine gm_callVi (As := [.int y3]) C (Tr_behind_c l cf ad gm_tr_8 ev8) (Nat.le_of_ble_eq_true rfl) rfl kc_9 wy_Tr_behind rfl wl_579 rfl ⟨(Nat.le_of_ble_eq_true rfl), (Nat.le_of_ble_eq_true rfl)⟩ rfl (Nat.le_of_ble_eq_true rfl) dX10_soonFrom_46 ?_
          refine gm_istore_n (lv' := [(3, .int v8), (0, .ref (ad 0)), (2, .int v1), (4, .int y4)]) C dX10_soonFrom_49 rfl (by decide) rfl ?_
          obtain ⟨x9, ex9, hf⟩ := gm_lt_s hf
          refine gm_iinc (v := x9) (lv' := [(4, .int x9), (3, .int v8), (0, .ref (ad 0)), (2, .int v1)]) (j := 3) C dX10_soonFrom_50 rfl (by rw [ex9]; rfl) (by decide) rfl ?_
          refine gm_goto C 21 dX10_soonFrom_53 (by decide) ?_
          exact gm_lvp [2, 3, 1, 0] rfl (ih _ _ hf)
        · have hf := gm_if _ c7 hf
          refine gm_iload C dX10_soonFrom_38 3 rfl ?_
          exact gm_iretK C hr rfl dX10_soonFrom_40 hf
  exact gm_lvp [3, 2, 1, 0] rfl (L21 fl _ _ hf)
theorem dX10_bestRoll_0 : decode cX10_bestRoll 0 = .ok (.iconst (-1), 1) := by decide +kernel
theorem dX10_bestRoll_1 : decode cX10_bestRoll 1 = .ok (.istore_n 1, 1) := by decide +kernel
theorem dX10_bestRoll_2 : decode cX10_bestRoll 2 = .ok (.iconst (-1), 1) := by decide +kernel
theorem dX10_bestRoll_3 : decode cX10_bestRoll 3 = .ok (.istore_n 2, 1) := by decide +kernel
theorem dX10_bestRoll_4 : decode cX10_bestRoll 4 = .ok (.iconst 0, 1) := by decide +kernel
theorem dX10_bestRoll_5 : decode cX10_bestRoll 5 = .ok (.istore_n 3, 1) := by decide +kernel
theorem dX10_bestRoll_6 : decode cX10_bestRoll 6 = .ok (.iload_n 3, 1) := by decide +kernel
theorem dX10_bestRoll_7 : decode cX10_bestRoll 7 = .ok (.aload_n 0, 1) := by decide +kernel
theorem dX10_bestRoll_8 : decode cX10_bestRoll 8 = .ok (.getfield 19, 3) := by decide +kernel
theorem dX10_bestRoll_11 : decode cX10_bestRoll 11 = .ok (.getfield 118, 3) := by decide +kernel
theorem dX10_bestRoll_14 : decode cX10_bestRoll 14 = .ok (.if_icmp .ge 38, 3) := by decide +kernel
theorem dX10_bestRoll_17 : decode cX10_bestRoll 17 = .ok (.aload_n 0, 1) := by decide +kernel
theorem dX10_bestRoll_18 : decode cX10_bestRoll 18 = .ok (.iload_n 3, 1) := by decide +kernel
theorem dX10_bestRoll_19 : decode cX10_bestRoll 19 = .ok (.invokevirtual 173, 3) := by decide +kernel
theorem dX10_bestRoll_22 : decode cX10_bestRoll 22 = .ok (.istore 4, 2) := by decide +kernel
theorem dX10_bestRoll_24 : decode cX10_bestRoll 24 = .ok (.iload 4, 2) := by decide +kernel
theorem dX10_bestRoll_26 : decode cX10_bestRoll 26 = .ok (.iconst (-1), 1) := by decide +kernel
theorem dX10_bestRoll_27 : decode cX10_bestRoll 27 = .ok (.if_icmp .eq 19, 3) := by decide +kernel
theorem dX10_bestRoll_30 : decode cX10_bestRoll 30 = .ok (.iload_n 1, 1) := by decide +kernel
theorem dX10_bestRoll_31 : decode cX10_bestRoll 31 = .ok (.iconst (-1), 1) := by decide +kernel
theorem dX10_bestRoll_32 : decode cX10_bestRoll 32 = .ok (.if_icmp .eq 9, 3) := by decide +kernel
theorem dX10_bestRoll_35 : decode cX10_bestRoll 35 = .ok (.iload 4, 2) := by decide +kernel
theorem dX10_bestRoll_37 : decode cX10_bestRoll 37 = .ok (.iload_n 2, 1) := by decide +kernel
theorem dX10_bestRoll_38 : decode cX10_bestRoll 38 = .ok (.if_icmp .ge 8, 3) := by decide +kernel
theorem dX10_bestRoll_41 : decode cX10_bestRoll 41 = .ok (.iload_n 3, 1) := by decide +kernel
theorem dX10_bestRoll_42 : decode cX10_bestRoll 42 = .ok (.istore_n 1, 1) := by decide +kernel
theorem dX10_bestRoll_43 : decode cX10_bestRoll 43 = .ok (.iload 4, 2) := by decide +kernel
theorem dX10_bestRoll_45 : decode cX10_bestRoll 45 = .ok (.istore_n 2, 1) := by decide +kernel
theorem dX10_bestRoll_46 : decode cX10_bestRoll 46 = .ok (.iinc 3 1, 3) := by decide +kernel
theorem dX10_bestRoll_49 : decode cX10_bestRoll 49 = .ok (.goto (-43), 3) := by decide +kernel
theorem dX10_bestRoll_52 : decode cX10_bestRoll 52 = .ok (.iload_n 1, 1) := by decide +kernel
theorem dX10_bestRoll_53 : decode cX10_bestRoll 53 = .ok (.ireturn, 1) := by decide +kernel
def Lt_bestRoll_L6_b (fl : Nat) (S : gm_M) (rec : Int32 → Int32 → Int32 → Option (Int32)) (y1 : Int32) (y2 : Int32) (y3 : Int32) : Option (Int32) :=
  if S.1 8 7 ≤ y3 then (
    some (y1)
  ) else (
    gm_bp1 (Lt_soonFrom fl y3 S) fun v6 =>
    gm_bp2 (show Option (Int32 × Int32) from
      if v6 = (-1) then (
        some (y1, y2)
      ) else (
        if y1 = (-1) then (
          some (y3, v6)
        ) else (
          if y2 ≤ v6 then (
            some (y1, y2)
          ) else (
            some (y3, v6)
          )
        )
      )
    ) fun x7 x8 =>
    gm_lt (α := Int32) (y3 + 1) fun x9 =>
    rec x7 x8 x9
  )
def Lt_bestRoll_L6 (fl : Nat) (S : gm_M) : Nat → Int32 → Int32 → Int32 → Option (Int32)
  | 0 => fun _ _ _ => none
  | n + 1 => Lt_bestRoll_L6_b fl S (Lt_bestRoll_L6 fl S n)
def Lt_bestRoll (fl : Nat) (S : gm_M) : Option Int32 :=
  gm_bp1 (Lt_bestRoll_L6 fl S fl (-1) (-1) 0) fun z4 =>
  some (z4)
set_option maxHeartbeats 4000000 in
set_option maxRecDepth 100000 in
theorem Lt_bestRoll_c (l : Launch) (cf : gm_C) (ad : Nat → Nat) {fl : Nat}    {S : gm_M} {r : Int32}  (hf : Lt_bestRoll fl S = some r) : gm_Met l yX10_bestRoll cX10_bestRoll 5 (some .int) 3 67 cf ad gm_sC 106 [.ref (ad 0)] S (some (.int r)) S := by
  refine gm_met (by decide +kernel) (Nat.le_of_ble_eq_true rfl) ?_
  intro p e s m args below meth c C hr
  have C : gm_F p s m args meth c cf ad 106 cX10_bestRoll 5 RX10 := C
  refine gm_lve (lv' := [(0, .ref (ad 0))]) rfl ?_
  unfold Lt_bestRoll at hf
  refine gm_iconst (v := (-1)) C dX10_bestRoll_0 (by decide) ?_
  refine gm_istore_n (lv' := [(1, .int (-1)), (0, .ref (ad 0))]) C dX10_bestRoll_1 rfl (by decide) rfl ?_
  refine gm_iconst (v := (-1)) C dX10_bestRoll_2 (by decide) ?_
  refine gm_istore_n (lv' := [(2, .int (-1)), (1, .int (-1)), (0, .ref (ad 0))]) C dX10_bestRoll_3 rfl (by decide) rfl ?_
  refine gm_iconst (v := 0) C dX10_bestRoll_4 (by decide) ?_
  refine gm_istore_n (lv' := [(3, .int 0), (2, .int (-1)), (1, .int (-1)), (0, .ref (ad 0))]) C dX10_bestRoll_5 rfl (by decide) rfl ?_
  have L6 : ∀ (n : Nat) (y1 : Int32) (y2 : Int32) (y3 : Int32) (z4 : Int32), Lt_bestRoll_L6 fl S n y1 y2 y3 = some (z4) → gm_G p l e { frames := 3, cells := 0, slots := 0, locals := 67 } s m args below meth c (MQ below (gm_Q cf ad gm_sC 106 (some (.int r)) S) args s 0 0 (gm_A ad 106)) cf ad gm_sC 106 5 S 52 [(1, .int z4)] [] → gm_G p l e { frames := 3, cells := 0, slots := 0, locals := 67 } s m args below meth c (MQ below (gm_Q cf ad gm_sC 106 (some (.int r)) S) args s 0 0 (gm_A ad 106)) cf ad gm_sC 106 5 S 6 [(0, .ref (ad 0)), (1, .int y1), (2, .int y2), (3, .int y3)] [] := by
    intro n
    induction n with
    | zero => intro y1 y2 y3 z4 hf K; cases (show (none : Option _) = some _ from hf)
    | succ n ih =>
      intro y1 y2 y3 z4 hf K
      have hf : Lt_bestRoll_L6_b fl S (Lt_bestRoll_L6 fl S n) y1 y2 y3 = some (z4) := hf
      unfold Lt_bestRoll_L6_b at hf
      refine gm_iload_n C dX10_bestRoll_6 rfl 3 rfl ?_
      refine gm_aload_n C dX10_bestRoll_7 rfl 0 rfl ?_
      refine gm_getr (j := 8) (u := 8) C (Nat.le_of_ble_eq_true rfl) rfl kc_10 (k := 1) rfl (by decide) rfl rfl wl_329 dX10_bestRoll_8 ?_
      refine gm_geti C (Nat.le_of_ble_eq_true rfl) rfl kc_9 (k := 7) rfl (by decide) rfl wl_124 dX10_bestRoll_11 ?_
      refine gm_icmp_ge C 52 dX10_bestRoll_14 (by decide) (fun c5 => ?_) (fun c5 => ?_)
      · have hf := gm_it _ c5 hf
        cases hf
        exact gm_lvp [1] rfl K
      · have hf := gm_if _ c5 hf
        refine gm_aload_n C dX10_bestRoll_17 rfl 0 rfl ?_
        refine gm_iload_n C dX10_bestRoll_18 rfl 3 rfl ?_
        obtain ⟨v6, ev6, hf⟩ := gm_bp1_s hf
        refine gm_callVi (As := [.int y3]) C (Lt_soonFrom_c l cf ad ev6) (Nat.le_of_ble_eq_true rfl) rfl kc_10 wy_Lt_soonFrom rfl wl_563 rfl ⟨(Nat.le_of_ble_eq_true rfl), (Nat.le_of_ble_eq_true rfl)⟩ rfl (Nat.le_of_ble_eq_true rfl) dX10_bestRoll_19 ?_
        refine gm_istore (lv' := [(4, .int v6), (0, .ref (ad 0)), (1, .int y1), (2, .int y2), (3, .int y3)]) C dX10_bestRoll_22 (by decide) rfl ?_
        refine gm_iload C dX10_bestRoll_24 0 rfl ?_
        refine gm_iconst (v := (-1)) C dX10_bestRoll_26 (by decide) ?_
        obtain ⟨x7, x8, hx, hf⟩ := gm_bp2_s hf
        have key : gm_G p l e { frames := 3, cells := 0, slots := 0, locals := 67 } s m args below meth c (MQ below (gm_Q cf ad gm_sC 106 (some (.int r)) S) args s 0 0 (gm_A ad 106)) cf ad gm_sC 106 5 S 46 [(0, .ref (ad 0)), (1, .int x7), (2, .int x8), (3, .int y3)] [] := by
          obtain ⟨x9, ex9, hf⟩ := gm_lt_s hf
          refine gm_iinc (v := x9) (lv' := [(3, .int x9), (0, .ref (ad 0)), (1, .int x7), (2, .int x8)]) (j := 3) C dX10_bestRoll_46 rfl (by rw [ex9]; rfl) (by decide) rfl ?_
          refine gm_goto C 6 dX10_bestRoll_49 (by decide) ?_
          exact gm_lvp [1, 2, 3, 0] rfl (ih _ _ _ _ hf K)
        have hf := hx
        refine gm_icmp_eq C 46 dX10_bestRoll_27 (by decide) (fun c10 => ?_) (fun c10 => ?_)
        · have hf := gm_it _ c10 hf
          cases hf
          exact gm_lvp [1, 2, 3, 4] rfl key
        · have hf := gm_if _ c10 hf
          refine gm_iload_n C dX10_bestRoll_30 rfl 2 rfl ?_
          refine gm_iconst (v := (-1)) C dX10_bestRoll_31 (by decide) ?_
          refine gm_icmp_eq C 41 dX10_bestRoll_32 (by decide) (fun c11 => ?_) (fun c11 => ?_)
          · have hf := gm_it _ c11 hf
            refine gm_iload_n C dX10_bestRoll_41 rfl 4 rfl ?_
            refine gm_istore_n (lv' := [(1, .int y3), (4, .int v6), (0, .ref (ad 0)), (2, .int y2), (3, .int y3)]) C dX10_bestRoll_42 rfl (by decide) rfl ?_
            refine gm_iload C dX10_bestRoll_43 1 rfl ?_
            refine gm_istore_n (lv' := [(2, .int v6), (1, .int y3), (4, .int v6), (0, .ref (ad 0)), (3, .int y3)]) C dX10_bestRoll_45 rfl (by decide) rfl ?_
            cases hf
            exact gm_lvp [3, 1, 0, 4] rfl key
          · have hf := gm_if _ c11 hf
            refine gm_iload C dX10_bestRoll_35 0 rfl ?_
            refine gm_iload_n C dX10_bestRoll_37 rfl 3 rfl ?_
            refine gm_icmp_ge C 46 dX10_bestRoll_38 (by decide) (fun c12 => ?_) (fun c12 => ?_)
            · have hf := gm_it _ c12 hf
              cases hf
              exact gm_lvp [1, 2, 3, 4] rfl key
            · have hf := gm_if _ c12 hf
              refine gm_iload_n C dX10_bestRoll_41 rfl 4 rfl ?_
              refine gm_istore_n (lv' := [(1, .int y3), (4, .int v6), (0, .ref (ad 0)), (2, .int y2), (3, .int y3)]) C dX10_bestRoll_42 rfl (by decide) rfl ?_
              refine gm_iload C dX10_bestRoll_43 1 rfl ?_
              refine gm_istore_n (lv' := [(2, .int v6), (1, .int y3), (4, .int v6), (0, .ref (ad 0)), (3, .int y3)]) C dX10_bestRoll_45 rfl (by decide) rfl ?_
              cases hf
              exact gm_lvp [3, 1, 0, 4] rfl key
  obtain ⟨z4, hx, hf⟩ := gm_bp1_s hf
  refine gm_lvp [3, 2, 1, 0] rfl (L6 fl _ _ _ _ hx ?_)
  refine gm_iload_n C dX10_bestRoll_52 rfl 0 rfl ?_
  exact gm_iretK C hr rfl dX10_bestRoll_53 hf
theorem dX9_riderCell_0 : decode cX9_riderCell 0 = .ok (.aload_n 0, 1) := by decide +kernel
theorem dX9_riderCell_1 : decode cX9_riderCell 1 = .ok (.getfield 18, 3) := by decide +kernel
theorem dX9_riderCell_4 : decode cX9_riderCell 4 = .ok (.iload_n 1, 1) := by decide +kernel
theorem dX9_riderCell_5 : decode cX9_riderCell 5 = .ok (.iconst 5, 1) := by decide +kernel
theorem dX9_riderCell_6 : decode cX9_riderCell 6 = .ok (.imul, 1) := by decide +kernel
theorem dX9_riderCell_7 : decode cX9_riderCell 7 = .ok (.iload_n 2, 1) := by decide +kernel
theorem dX9_riderCell_8 : decode cX9_riderCell 8 = .ok (.iadd, 1) := by decide +kernel
theorem dX9_riderCell_9 : decode cX9_riderCell 9 = .ok (.iaload, 1) := by decide +kernel
theorem dX9_riderCell_10 : decode cX9_riderCell 10 = .ok (.ireturn, 1) := by decide +kernel
def Tr_riderCell (t : Nat) (a0 : Int32) (a1 : Int32) (S : gm_M) : Option Int32 :=
  gm_ck ((a0 * 5) + a1) 25 <|
  some (S.1 (t + 3) ((a0 * 5) + a1).toNatClampNeg)
set_option maxHeartbeats 4000000 in
set_option maxRecDepth 100000 in
theorem Tr_riderCell_c (l : Launch) (cf : gm_C) (ad : Nat → Nat)  {t : Nat} (ht : gm_isTr t) {a0 : Int32} {a1 : Int32} {S : gm_M} {r : Int32}  (hf : Tr_riderCell t a0 a1 S = some r) : gm_Met l yX9_riderCell cX9_riderCell 3 (some .int) 0 0 cf ad gm_sC 106 [.ref (ad t), .int a0, .int a1] S (some (.int r)) S := by
  refine gm_met (by decide +kernel) (Nat.le_of_ble_eq_true rfl) ?_
  intro p e s m args below meth c C hr
  have C : gm_F p s m args meth c cf ad 106 cX9_riderCell 3 RX9 := C
  refine gm_lve (lv' := [(0, .ref (ad t)), (1, .int a0), (2, .int a1)]) rfl ?_
  unfold Tr_riderCell at hf
  refine gm_aload_n C dX9_riderCell_0 rfl 0 rfl ?_
  refine gm_getr (j := 3) (u := (t + 3)) C (gm_tr_l0 ht) (gm_tr_k0 ht) kc_9 (k := 2) rfl (by decide) rfl rfl wl_108 dX9_riderCell_1 ?_
  refine gm_iload_n C dX9_riderCell_4 rfl 1 rfl ?_
  refine gm_iconst (v := 5) C dX9_riderCell_5 (by decide) ?_
  refine gm_imul C dX9_riderCell_6 ?_
  refine gm_iload_n C dX9_riderCell_7 rfl 2 rfl ?_
  refine gm_iadd C dX9_riderCell_8 ?_
  obtain ⟨h1, hf⟩ := gm_ck_s hf
  refine gm_iald C (gm_tr_l3 ht) (gm_tr_k3 ht) (gm_tr_n3 ht) h1 dX9_riderCell_9 ?_
  exact gm_iretK C hr rfl dX9_riderCell_10 hf
theorem dX9_luckiestRider_0 : decode cX9_luckiestRider 0 = .ok (.iconst (-1), 1) := by decide +kernel
theorem dX9_luckiestRider_1 : decode cX9_luckiestRider 1 = .ok (.istore_n 1, 1) := by decide +kernel
theorem dX9_luckiestRider_2 : decode cX9_luckiestRider 2 = .ok (.iconst (-1), 1) := by decide +kernel
theorem dX9_luckiestRider_3 : decode cX9_luckiestRider 3 = .ok (.istore_n 2, 1) := by decide +kernel
theorem dX9_luckiestRider_4 : decode cX9_luckiestRider 4 = .ok (.iconst 0, 1) := by decide +kernel
theorem dX9_luckiestRider_5 : decode cX9_luckiestRider 5 = .ok (.istore_n 3, 1) := by decide +kernel
theorem dX9_luckiestRider_6 : decode cX9_luckiestRider 6 = .ok (.iload_n 3, 1) := by decide +kernel
theorem dX9_luckiestRider_7 : decode cX9_luckiestRider 7 = .ok (.aload_n 0, 1) := by decide +kernel
theorem dX9_luckiestRider_8 : decode cX9_luckiestRider 8 = .ok (.getfield 37, 3) := by decide +kernel
theorem dX9_luckiestRider_11 : decode cX9_luckiestRider 11 = .ok (.if_icmp .ge 35, 3) := by decide +kernel
theorem dX9_luckiestRider_14 : decode cX9_luckiestRider 14 = .ok (.aload_n 0, 1) := by decide +kernel
theorem dX9_luckiestRider_15 : decode cX9_luckiestRider 15 = .ok (.iload_n 3, 1) := by decide +kernel
theorem dX9_luckiestRider_16 : decode cX9_luckiestRider 16 = .ok (.iconst 2, 1) := by decide +kernel
theorem dX9_luckiestRider_17 : decode cX9_luckiestRider 17 = .ok (.invokevirtual 64, 3) := by decide +kernel
theorem dX9_luckiestRider_20 : decode cX9_luckiestRider 20 = .ok (.aload_n 0, 1) := by decide +kernel
theorem dX9_luckiestRider_21 : decode cX9_luckiestRider 21 = .ok (.iload_n 3, 1) := by decide +kernel
theorem dX9_luckiestRider_22 : decode cX9_luckiestRider 22 = .ok (.iconst 3, 1) := by decide +kernel
theorem dX9_luckiestRider_23 : decode cX9_luckiestRider 23 = .ok (.invokevirtual 64, 3) := by decide +kernel
theorem dX9_luckiestRider_26 : decode cX9_luckiestRider 26 = .ok (.iadd, 1) := by decide +kernel
theorem dX9_luckiestRider_27 : decode cX9_luckiestRider 27 = .ok (.istore 4, 2) := by decide +kernel
theorem dX9_luckiestRider_29 : decode cX9_luckiestRider 29 = .ok (.iload 4, 2) := by decide +kernel
theorem dX9_luckiestRider_31 : decode cX9_luckiestRider 31 = .ok (.iload_n 2, 1) := by decide +kernel
theorem dX9_luckiestRider_32 : decode cX9_luckiestRider 32 = .ok (.if_icmp .le 8, 3) := by decide +kernel
theorem dX9_luckiestRider_35 : decode cX9_luckiestRider 35 = .ok (.iload_n 3, 1) := by decide +kernel
theorem dX9_luckiestRider_36 : decode cX9_luckiestRider 36 = .ok (.istore_n 1, 1) := by decide +kernel
theorem dX9_luckiestRider_37 : decode cX9_luckiestRider 37 = .ok (.iload 4, 2) := by decide +kernel
theorem dX9_luckiestRider_39 : decode cX9_luckiestRider 39 = .ok (.istore_n 2, 1) := by decide +kernel
theorem dX9_luckiestRider_40 : decode cX9_luckiestRider 40 = .ok (.iinc 3 1, 3) := by decide +kernel
theorem dX9_luckiestRider_43 : decode cX9_luckiestRider 43 = .ok (.goto (-37), 3) := by decide +kernel
theorem dX9_luckiestRider_46 : decode cX9_luckiestRider 46 = .ok (.iload_n 1, 1) := by decide +kernel
theorem dX9_luckiestRider_47 : decode cX9_luckiestRider 47 = .ok (.ireturn, 1) := by decide +kernel
def Tr_luckiestRider_L6_b (t : Nat) (S : gm_M) (rec : Int32 → Int32 → Int32 → Option (Int32)) (y1 : Int32) (y2 : Int32) (y3 : Int32) : Option (Int32) :=
  if S.1 t 8 ≤ y3 then (
    some (y1)
  ) else (
    gm_bp1 (Tr_riderCell t y3 2 S) fun v6 =>
    gm_bp1 (Tr_riderCell t y3 3 S) fun v7 =>
    gm_lt (α := Int32) (v6 + v7) fun x8 =>
    gm_bp2 (show Option (Int32 × Int32) from
      if x8 ≤ y2 then (
        some (y1, y2)
      ) else (
        some (y3, x8)
      )
    ) fun x9 x10 =>
    gm_lt (α := Int32) (y3 + 1) fun x11 =>
    rec x9 x10 x11
  )
def Tr_luckiestRider_L6 (t : Nat) (S : gm_M) : Nat → Int32 → Int32 → Int32 → Option (Int32)
  | 0 => fun _ _ _ => none
  | n + 1 => Tr_luckiestRider_L6_b t S (Tr_luckiestRider_L6 t S n)
def Tr_luckiestRider (fl : Nat) (t : Nat) (S : gm_M) : Option Int32 :=
  gm_bp1 (Tr_luckiestRider_L6 t S fl (-1) (-1) 0) fun z4 =>
  some (z4)
set_option maxHeartbeats 4000000 in
set_option maxRecDepth 100000 in
theorem Tr_luckiestRider_c (l : Launch) (cf : gm_C) (ad : Nat → Nat) {fl : Nat} {t : Nat} (ht : gm_isTr t)  {S : gm_M} {r : Int32}  (hf : Tr_luckiestRider fl t S = some r) : gm_Met l yX9_luckiestRider cX9_luckiestRider 5 (some .int) 1 22 cf ad gm_sC 106 [.ref (ad t)] S (some (.int r)) S := by
  refine gm_met (by decide +kernel) (Nat.le_of_ble_eq_true rfl) ?_
  intro p e s m args below meth c C hr
  have C : gm_F p s m args meth c cf ad 106 cX9_luckiestRider 5 RX9 := C
  refine gm_lve (lv' := [(0, .ref (ad t))]) rfl ?_
  unfold Tr_luckiestRider at hf
  refine gm_iconst (v := (-1)) C dX9_luckiestRider_0 (by decide) ?_
  refine gm_istore_n (lv' := [(1, .int (-1)), (0, .ref (ad t))]) C dX9_luckiestRider_1 rfl (by decide) rfl ?_
  refine gm_iconst (v := (-1)) C dX9_luckiestRider_2 (by decide) ?_
  refine gm_istore_n (lv' := [(2, .int (-1)), (1, .int (-1)), (0, .ref (ad t))]) C dX9_luckiestRider_3 rfl (by decide) rfl ?_
  refine gm_iconst (v := 0) C dX9_luckiestRider_4 (by decide) ?_
  refine gm_istore_n (lv' := [(3, .int 0), (2, .int (-1)), (1, .int (-1)), (0, .ref (ad t))]) C dX9_luckiestRider_5 rfl (by decide) rfl ?_
  have L6 : ∀ (n : Nat) (y1 : Int32) (y2 : Int32) (y3 : Int32) (z4 : Int32), Tr_luckiestRider_L6 t S n y1 y2 y3 = some (z4) → gm_G p l e { frames := 1, cells := 0, slots := 0, locals := 22 } s m args below meth c (MQ below (gm_Q cf ad gm_sC 106 (some (.int r)) S) args s 0 0 (gm_A ad 106)) cf ad gm_sC 106 5 S 46 [(1, .int z4)] [] → gm_G p l e { frames := 1, cells := 0, slots := 0, locals := 22 } s m args below meth c (MQ below (gm_Q cf ad gm_sC 106 (some (.int r)) S) args s 0 0 (gm_A ad 106)) cf ad gm_sC 106 5 S 6 [(0, .ref (ad t)), (1, .int y1), (2, .int y2), (3, .int y3)] [] := by
    intro n
    induction n with
    | zero => intro y1 y2 y3 z4 hf K; cases (show (none : Option _) = some _ from hf)
    | succ n ih =>
      intro y1 y2 y3 z4 hf K
      have hf : Tr_luckiestRider_L6_b t S (Tr_luckiestRider_L6 t S n) y1 y2 y3 = some (z4) := hf
      unfold Tr_luckiestRider_L6_b at hf
      refine gm_iload_n C dX9_luckiestRider_6 rfl 3 rfl ?_
      refine gm_aload_n C dX9_luckiestRider_7 rfl 0 rfl ?_
      refine gm_geti C (gm_tr_l0 ht) (gm_tr_k0 ht) kc_9 (k := 8) rfl (by decide) rfl wl_126 dX9_luckiestRider_8 ?_
      refine gm_icmp_ge C 46 dX9_luckiestRider_11 (by decide) (fun c5 => ?_) (fun c5 => ?_)
      · have hf := gm_it _ c5 hf
        cases hf
        exact gm_lvp [1] rfl K
      · have hf := gm_if _ c5 hf
        refine gm_aload_n C dX9_luckiestRider_14 rfl 0 rfl ?_
        refine gm_iload_n C dX9_luckiestRider_15 rfl 3 rfl ?_
        refine gm_iconst (v := 2) C dX9_luckiestRider_16 (by decide) ?_
        obtain ⟨v6, ev6, hf⟩ := gm_bp1_s hf
        refine gm_callVi (As := [.int y3, .int 2]) C (Tr_riderCell_c l cf ad ht ev6) (gm_tr_l0 ht) (gm_tr_k0 ht) kc_9 wy_Tr_riderCell rfl wl_588 rfl ⟨(Nat.le_of_ble_eq_true rfl), (Nat.le_of_ble_eq_true rfl)⟩ rfl (Nat.le_of_ble_eq_true rfl) dX9_luckiestRider_17 ?_
        refine gm_aload_n C dX9_luckiestRider_20 rfl 0 rfl ?_
        refine gm_iload_n C dX9_luckiestRider_21 rfl 3 rfl ?_
        refine gm_iconst (v := 3) C dX9_luckiestRider_22 (by decide) ?_
        obtain ⟨v7, ev7, hf⟩ := gm_bp1_s hf
        refine gm_callVi (As := [.int y3, .int 3]) C (Tr_riderCell_c l cf ad ht ev7) (gm_tr_l0 ht) (gm_tr_k0 ht) kc_9 wy_Tr_riderCell rfl wl_588 rfl ⟨(Nat.le_of_ble_eq_true rfl), (Nat.le_of_ble_eq_true rfl)⟩ rfl (Nat.le_of_ble_eq_true rfl) dX9_luckiestRider_23 ?_
        refine gm_iadd C dX9_luckiestRider_26 ?_
        obtain ⟨x8, ex8, hf⟩ := gm_lt_s hf
        refine gm_topi ex8 ?_
        refine gm_istore (lv' := [(4, .int x8), (0, .ref (ad t)), (1, .int y1), (2, .int y2), (3, .int y3)]) C dX9_luckiestRider_27 (by decide) rfl ?_
        refine gm_iload C dX9_luckiestRider_29 0 rfl ?_
        refine gm_iload_n C dX9_luckiestRider_31 rfl 3 rfl ?_
        obtain ⟨x9, x10, hx, hf⟩ := gm_bp2_s hf
        have key : gm_G p l e { frames := 1, cells := 0, slots := 0, locals := 22 } s m args below meth c (MQ below (gm_Q cf ad gm_sC 106 (some (.int r)) S) args s 0 0 (gm_A ad 106)) cf ad gm_sC 106 5 S 40 [(0, .ref (ad t)), (1, .int x9), (2, .int x10), (3, .int y3)] [] := by
          obtain ⟨x11, ex11, hf⟩ := gm_lt_s hf
          refine gm_iinc (v := x11) (lv' := [(3, .int x11), (0, .ref (ad t)), (1, .int x9), (2, .int x10)]) (j := 3) C dX9_luckiestRider_40 rfl (by rw [ex11]; rfl) (by decide) rfl ?_
          refine gm_goto C 6 dX9_luckiestRider_43 (by decide) ?_
          exact gm_lvp [1, 2, 3, 0] rfl (ih _ _ _ _ hf K)
        have hf := hx
        refine gm_icmp_le C 40 dX9_luckiestRider_32 (by decide) (fun c12 => ?_) (fun c12 => ?_)
        · have hf := gm_it _ c12 hf
          cases hf
          exact gm_lvp [1, 2, 3, 4] rfl key
        · have hf := gm_if _ c12 hf
          refine gm_iload_n C dX9_luckiestRider_35 rfl 4 rfl ?_
          refine gm_istore_n (lv' := [(1, .int y3), (4, .int x8), (0, .ref (ad t)), (2, .int y2), (3, .int y3)]) C dX9_luckiestRider_36 rfl (by decide) rfl ?_
          refine gm_iload C dX9_luckiestRider_37 1 rfl ?_
          refine gm_istore_n (lv' := [(2, .int x8), (1, .int y3), (4, .int x8), (0, .ref (ad t)), (3, .int y3)]) C dX9_luckiestRider_39 rfl (by decide) rfl ?_
          cases hf
          exact gm_lvp [3, 1, 0, 4] rfl key
  obtain ⟨z4, hx, hf⟩ := gm_bp1_s hf
  refine gm_lvp [3, 2, 1, 0] rfl (L6 fl _ _ _ _ hx ?_)
  refine gm_iload_n C dX9_luckiestRider_46 rfl 0 rfl ?_
  exact gm_iretK C hr rfl dX9_luckiestRider_47 hf
