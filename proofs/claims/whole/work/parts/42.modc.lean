theorem dX11_takeClause_0 : decode cX11_takeClause 0 = .ok (.aload_n 0, 1) := by decide +kernel
theorem dX11_takeClause_1 : decode cX11_takeClause 1 = .ok (.invokevirtual 104, 3) := by decide +kernel
theorem dX11_takeClause_4 : decode cX11_takeClause 4 = .ok (.istore_n 1, 1) := by decide +kernel
theorem dX11_takeClause_5 : decode cX11_takeClause 5 = .ok (.iload_n 1, 1) := by decide +kernel
theorem dX11_takeClause_6 : decode cX11_takeClause 6 = .ok (.bipush 100, 2) := by decide +kernel
theorem dX11_takeClause_8 : decode cX11_takeClause 8 = .ok (.if_icmp .ne 7, 3) := by decide +kernel
theorem dX11_takeClause_11 : decode cX11_takeClause 11 = .ok (.iconst 0, 1) := by decide +kernel
theorem dX11_takeClause_12 : decode cX11_takeClause 12 = .ok (.goto 44, 3) := by decide +kernel
theorem dX11_takeClause_15 : decode cX11_takeClause 15 = .ok (.iload_n 1, 1) := by decide +kernel
theorem dX11_takeClause_16 : decode cX11_takeClause 16 = .ok (.bipush 109, 2) := by decide +kernel
theorem dX11_takeClause_18 : decode cX11_takeClause 18 = .ok (.if_icmp .ne 7, 3) := by decide +kernel
theorem dX11_takeClause_21 : decode cX11_takeClause 21 = .ok (.iconst 1, 1) := by decide +kernel
theorem dX11_takeClause_22 : decode cX11_takeClause 22 = .ok (.goto 34, 3) := by decide +kernel
theorem dX11_takeClause_25 : decode cX11_takeClause 25 = .ok (.iload_n 1, 1) := by decide +kernel
theorem dX11_takeClause_26 : decode cX11_takeClause 26 = .ok (.bipush 114, 2) := by decide +kernel
theorem dX11_takeClause_28 : decode cX11_takeClause 28 = .ok (.if_icmp .ne 7, 3) := by decide +kernel
theorem dX11_takeClause_31 : decode cX11_takeClause 31 = .ok (.iconst 2, 1) := by decide +kernel
theorem dX11_takeClause_32 : decode cX11_takeClause 32 = .ok (.goto 24, 3) := by decide +kernel
theorem dX11_takeClause_35 : decode cX11_takeClause 35 = .ok (.iload_n 1, 1) := by decide +kernel
theorem dX11_takeClause_36 : decode cX11_takeClause 36 = .ok (.bipush 110, 2) := by decide +kernel
theorem dX11_takeClause_38 : decode cX11_takeClause 38 = .ok (.if_icmp .ne 7, 3) := by decide +kernel
theorem dX11_takeClause_41 : decode cX11_takeClause 41 = .ok (.iconst 3, 1) := by decide +kernel
theorem dX11_takeClause_42 : decode cX11_takeClause 42 = .ok (.goto 14, 3) := by decide +kernel
theorem dX11_takeClause_45 : decode cX11_takeClause 45 = .ok (.iload_n 1, 1) := by decide +kernel
theorem dX11_takeClause_46 : decode cX11_takeClause 46 = .ok (.bipush 112, 2) := by decide +kernel
theorem dX11_takeClause_48 : decode cX11_takeClause 48 = .ok (.if_icmp .ne 7, 3) := by decide +kernel
theorem dX11_takeClause_51 : decode cX11_takeClause 51 = .ok (.iconst 4, 1) := by decide +kernel
theorem dX11_takeClause_52 : decode cX11_takeClause 52 = .ok (.goto 4, 3) := by decide +kernel
theorem dX11_takeClause_55 : decode cX11_takeClause 55 = .ok (.iconst (-1), 1) := by decide +kernel
theorem dX11_takeClause_56 : decode cX11_takeClause 56 = .ok (.istore_n 2, 1) := by decide +kernel
theorem dX11_takeClause_57 : decode cX11_takeClause 57 = .ok (.iload_n 2, 1) := by decide +kernel
theorem dX11_takeClause_58 : decode cX11_takeClause 58 = .ok (.ifCond .lt 14, 3) := by decide +kernel
theorem dX11_takeClause_61 : decode cX11_takeClause 61 = .ok (.iload_n 2, 1) := by decide +kernel
theorem dX11_takeClause_62 : decode cX11_takeClause 62 = .ok (.ifCond .le 20, 3) := by decide +kernel
theorem dX11_takeClause_65 : decode cX11_takeClause 65 = .ok (.aload_n 0, 1) := by decide +kernel
theorem dX11_takeClause_66 : decode cX11_takeClause 66 = .ok (.getfield 126, 3) := by decide +kernel
theorem dX11_takeClause_69 : decode cX11_takeClause 69 = .ok (.ifCond .ne 13, 3) := by decide +kernel
theorem dX11_takeClause_72 : decode cX11_takeClause 72 = .ok (.aload_n 0, 1) := by decide +kernel
theorem dX11_takeClause_73 : decode cX11_takeClause 73 = .ok (.iconst 1, 1) := by decide +kernel
theorem dX11_takeClause_74 : decode cX11_takeClause 74 = .ok (.aload_n 0, 1) := by decide +kernel
theorem dX11_takeClause_75 : decode cX11_takeClause 75 = .ok (.getfield 101, 3) := by decide +kernel
theorem dX11_takeClause_78 : decode cX11_takeClause 78 = .ok (.invokevirtual 112, 3) := by decide +kernel
theorem dX11_takeClause_81 : decode cX11_takeClause 81 = .ok (.ireturn, 1) := by decide +kernel
theorem dX11_takeClause_82 : decode cX11_takeClause 82 = .ok (.aload_n 0, 1) := by decide +kernel
theorem dX11_takeClause_83 : decode cX11_takeClause 83 = .ok (.iload_n 2, 1) := by decide +kernel
theorem dX11_takeClause_84 : decode cX11_takeClause 84 = .ok (.invokevirtual 171, 3) := by decide +kernel
theorem dX11_takeClause_87 : decode cX11_takeClause 87 = .ok (.ifCond .eq 13, 3) := by decide +kernel
theorem dX11_takeClause_90 : decode cX11_takeClause 90 = .ok (.aload_n 0, 1) := by decide +kernel
theorem dX11_takeClause_91 : decode cX11_takeClause 91 = .ok (.iconst 3, 1) := by decide +kernel
theorem dX11_takeClause_92 : decode cX11_takeClause 92 = .ok (.aload_n 0, 1) := by decide +kernel
theorem dX11_takeClause_93 : decode cX11_takeClause 93 = .ok (.getfield 101, 3) := by decide +kernel
theorem dX11_takeClause_96 : decode cX11_takeClause 96 = .ok (.invokevirtual 112, 3) := by decide +kernel
theorem dX11_takeClause_99 : decode cX11_takeClause 99 = .ok (.ireturn, 1) := by decide +kernel
theorem dX11_takeClause_100 : decode cX11_takeClause 100 = .ok (.aload_n 0, 1) := by decide +kernel
theorem dX11_takeClause_101 : decode cX11_takeClause 101 = .ok (.dup, 1) := by decide +kernel
theorem dX11_takeClause_102 : decode cX11_takeClause 102 = .ok (.getfield 101, 3) := by decide +kernel
theorem dX11_takeClause_105 : decode cX11_takeClause 105 = .ok (.iconst 1, 1) := by decide +kernel
theorem dX11_takeClause_106 : decode cX11_takeClause 106 = .ok (.iadd, 1) := by decide +kernel
theorem dX11_takeClause_107 : decode cX11_takeClause 107 = .ok (.putfield 101, 3) := by decide +kernel
theorem dX11_takeClause_110 : decode cX11_takeClause 110 = .ok (.aload_n 0, 1) := by decide +kernel
theorem dX11_takeClause_111 : decode cX11_takeClause 111 = .ok (.iload_n 2, 1) := by decide +kernel
theorem dX11_takeClause_112 : decode cX11_takeClause 112 = .ok (.invokevirtual 175, 3) := by decide +kernel
theorem dX11_takeClause_115 : decode cX11_takeClause 115 = .ok (.istore_n 3, 1) := by decide +kernel
theorem dX11_takeClause_116 : decode cX11_takeClause 116 = .ok (.iload_n 3, 1) := by decide +kernel
theorem dX11_takeClause_117 : decode cX11_takeClause 117 = .ok (.ifCond .ne 22, 3) := by decide +kernel
theorem dX11_takeClause_120 : decode cX11_takeClause 120 = .ok (.aload_n 0, 1) := by decide +kernel
theorem dX11_takeClause_121 : decode cX11_takeClause 121 = .ok (.invokevirtual 104, 3) := by decide +kernel
theorem dX11_takeClause_124 : decode cX11_takeClause 124 = .ok (.bipush 59, 2) := by decide +kernel
theorem dX11_takeClause_126 : decode cX11_takeClause 126 = .ok (.if_icmp .eq 13, 3) := by decide +kernel
theorem dX11_takeClause_129 : decode cX11_takeClause 129 = .ok (.aload_n 0, 1) := by decide +kernel
theorem dX11_takeClause_130 : decode cX11_takeClause 130 = .ok (.iconst 1, 1) := by decide +kernel
theorem dX11_takeClause_131 : decode cX11_takeClause 131 = .ok (.aload_n 0, 1) := by decide +kernel
theorem dX11_takeClause_132 : decode cX11_takeClause 132 = .ok (.getfield 101, 3) := by decide +kernel
theorem dX11_takeClause_135 : decode cX11_takeClause 135 = .ok (.invokevirtual 112, 3) := by decide +kernel
theorem dX11_takeClause_138 : decode cX11_takeClause 138 = .ok (.ireturn, 1) := by decide +kernel
theorem dX11_takeClause_139 : decode cX11_takeClause 139 = .ok (.aload_n 0, 1) := by decide +kernel
theorem dX11_takeClause_140 : decode cX11_takeClause 140 = .ok (.dup, 1) := by decide +kernel
theorem dX11_takeClause_141 : decode cX11_takeClause 141 = .ok (.getfield 101, 3) := by decide +kernel
theorem dX11_takeClause_144 : decode cX11_takeClause 144 = .ok (.iconst 1, 1) := by decide +kernel
theorem dX11_takeClause_145 : decode cX11_takeClause 145 = .ok (.iadd, 1) := by decide +kernel
theorem dX11_takeClause_146 : decode cX11_takeClause 146 = .ok (.putfield 101, 3) := by decide +kernel
theorem dX11_takeClause_149 : decode cX11_takeClause 149 = .ok (.iload_n 3, 1) := by decide +kernel
theorem dX11_takeClause_150 : decode cX11_takeClause 150 = .ok (.ireturn, 1) := by decide +kernel
def Mo_takeClause (fl : Nat) (S : gm_M) : Option (Int32 × gm_M) :=
  gm_bp2 (Mo_here fl S) fun v1 S2 =>
  gm_bp1 (show Option (Int32) from
    if v1 = 100 then (
      some (0)
    ) else (
      if v1 = 109 then (
        some (1)
      ) else (
        if v1 = 114 then (
          some (2)
        ) else (
          if v1 = 110 then (
            some (3)
          ) else (
            if v1 = 112 then (
              some (4)
            ) else (
              some ((-1))
            )
          )
        )
      )
    )
  ) fun x3 =>
  if x3 < 0 then (
    gm_bp2 (Mo_fails 1 (S2.1 0 11) S2) fun v5 S6 =>
    some (v5, S6)
  ) else (
    if x3 ≤ 0 then (
      gm_bp1 (Mo_isFull x3 S2) fun v8 =>
      if v8 = 0 then (
        gm_lt (α := gm_M) (gm_ui S2 0 11 ((S2.1 0 11) + 1)) fun S10 =>
        gm_bp2 (Mo_takeBody fl x3 S10) fun v11 S12 =>
        if v11 = 0 then (
          gm_bp2 (Mo_here fl S12) fun v15 S16 =>
          if v15 = 59 then (
            gm_lt (α := gm_M) (gm_ui S16 0 11 ((S16.1 0 11) + 1)) fun S18 =>
            some (v11, S18)
          ) else (
            gm_bp2 (Mo_fails 1 (S16.1 0 11) S16) fun v19 S20 =>
            some (v19, S20)
          )
        ) else (
          gm_lt (α := gm_M) (gm_ui S12 0 11 ((S12.1 0 11) + 1)) fun S14 =>
          some (v11, S14)
        )
      ) else (
        gm_bp2 (Mo_fails 3 (S2.1 0 11) S2) fun v21 S22 =>
        some (v21, S22)
      )
    ) else (
      if S2.1 0 14 = 0 then (
        gm_bp2 (Mo_fails 1 (S2.1 0 11) S2) fun v39 S40 =>
        some (v39, S40)
      ) else (
        gm_bp1 (Mo_isFull x3 S2) fun v24 =>
        if v24 = 0 then (
          gm_lt (α := gm_M) (gm_ui S2 0 11 ((S2.1 0 11) + 1)) fun S26 =>
          gm_bp2 (Mo_takeBody fl x3 S26) fun v27 S28 =>
          if v27 = 0 then (
            gm_bp2 (Mo_here fl S28) fun v31 S32 =>
            if v31 = 59 then (
              gm_lt (α := gm_M) (gm_ui S32 0 11 ((S32.1 0 11) + 1)) fun S34 =>
              some (v27, S34)
            ) else (
              gm_bp2 (Mo_fails 1 (S32.1 0 11) S32) fun v35 S36 =>
              some (v35, S36)
            )
          ) else (
            gm_lt (α := gm_M) (gm_ui S28 0 11 ((S28.1 0 11) + 1)) fun S30 =>
            some (v27, S30)
          )
        ) else (
          gm_bp2 (Mo_fails 3 (S2.1 0 11) S2) fun v37 S38 =>
          some (v37, S38)
        )
      )
    )
  )
set_option maxHeartbeats 4000000 in
set_option maxRecDepth 100000 in
theorem Mo_takeClause_c (l : Launch) (cf : gm_C) (ad : Nat → Nat) {fl : Nat}    {S : gm_M} {r : Int32} {S'  : gm_M} (hf : Mo_takeClause fl S = some (r, S')) : gm_Met l yX11_takeClause cX11_takeClause 4 (some .int) 5 117 cf ad gm_sM 17 [.ref (ad 0)] S (some (.int r)) S' := by
  refine gm_met (by decide +kernel) (Nat.le_of_ble_eq_true rfl) ?_
  intro p e s m args below meth c C hr
  have C : gm_F p s m args meth c cf ad 17 cX11_takeClause 4 RX11 := C
  refine gm_lve (lv' := [(0, .ref (ad 0))]) rfl ?_
  unfold Mo_takeClause at hf
  refine gm_aload_n C dX11_takeClause_0 rfl 0 rfl ?_
  obtain ⟨v1, S2, eS2, hf⟩ := gm_bp2_s hf
  refine gm_callVi (As := []) C (Mo_here_c l cf ad eS2) (Nat.le_of_ble_eq_true rfl) rfl kc_11 wy_Mo_here rfl wl_966 rfl ⟨(Nat.le_of_ble_eq_true rfl), (Nat.le_of_ble_eq_true rfl)⟩ rfl (Nat.le_of_ble_eq_true rfl) dX11_takeClause_1 ?_
  refine gm_istore_n (lv' := [(1, .int v1), (0, .ref (ad 0))]) C dX11_takeClause_4 rfl (by decide) rfl ?_
  refine gm_iload_n C dX11_takeClause_5 rfl 0 rfl ?_
  refine gm_bipush (v := 100) C dX11_takeClause_6 (by decide) ?_
  obtain ⟨x3, hx, hf⟩ := gm_bp1_s hf
  have key : gm_G p l e { frames := 5, cells := 0, slots := 0, locals := 117 } s m args below meth c (MQ below (gm_Q cf ad gm_sM 17 (some (.int r)) S') args s 0 0 (gm_A ad 17)) cf ad gm_sM 17 4 S2 56 [(0, .ref (ad 0))] [.int x3] := by
    refine gm_istore_n (lv' := [(2, .int x3), (0, .ref (ad 0))]) C dX11_takeClause_56 rfl (by decide) rfl ?_
    refine gm_iload_n C dX11_takeClause_57 rfl 0 rfl ?_
    refine gm_if_lt C 72 dX11_takeClause_58 (by decide) (fun c4 => ?_) (fun c4 => ?_)
    · have hf := gm_it _ c4 hf
      refine gm_aload_n C dX11_takeClause_72 rfl 1 rfl ?_
      refine gm_iconst (v := 1) C dX11_takeClause_73 (by decide) ?_
      refine gm_aload_n C dX11_takeClause_74 rfl 1 rfl ?_
      refine gm_geti C (Nat.le_of_ble_eq_true rfl) rfl kc_11 (k := 11) rfl (by decide) rfl wl_851 dX11_takeClause_75 ?_
      obtain ⟨v5, S6, eS6, hf⟩ := gm_bp2_s hf
      refine gm_callVi (As := [.int 1, .int (S2.1 0 11)]) C (Mo_fails_c l cf ad eS6) (Nat.le_of_ble_eq_true rfl) rfl kc_11 wy_Mo_fails rfl wl_974 rfl ⟨(Nat.le_of_ble_eq_true rfl), (Nat.le_of_ble_eq_true rfl)⟩ rfl (Nat.le_of_ble_eq_true rfl) dX11_takeClause_78 ?_
      exact gm_iret C hr rfl dX11_takeClause_81 hf
    · have hf := gm_if _ c4 hf
      refine gm_iload_n C dX11_takeClause_61 rfl 0 rfl ?_
      refine gm_if_le C 82 dX11_takeClause_62 (by decide) (fun c7 => ?_) (fun c7 => ?_)
      · have hf := gm_it _ c7 hf
        refine gm_aload_n C dX11_takeClause_82 rfl 1 rfl ?_
        refine gm_iload_n C dX11_takeClause_83 rfl 0 rfl ?_
        obtain ⟨v8, ev8, hf⟩ := gm_bp1_s hf
        refine gm_callVi (As := [.int x3]) C (Mo_isFull_c l cf ad ev8) (Nat.le_of_ble_eq_true rfl) rfl kc_11 wy_Mo_isFull rfl wl_978 rfl ⟨(Nat.le_of_ble_eq_true rfl), (Nat.le_of_ble_eq_true rfl)⟩ rfl (Nat.le_of_ble_eq_true rfl) dX11_takeClause_84 ?_
        refine gm_if_eq C 100 dX11_takeClause_87 (by decide) (fun c9 => ?_) (fun c9 => ?_)
        · have hf := gm_it _ c9 hf
          refine gm_aload_n C dX11_takeClause_100 rfl 1 rfl ?_
          refine gm_dup C dX11_takeClause_101 rfl ?_
          refine gm_geti C (Nat.le_of_ble_eq_true rfl) rfl kc_11 (k := 11) rfl (by decide) rfl wl_851 dX11_takeClause_102 ?_
          refine gm_iconst (v := 1) C dX11_takeClause_105 (by decide) ?_
          refine gm_iadd C dX11_takeClause_106 ?_
          refine gm_puti C (Nat.le_of_ble_eq_true rfl) rfl kc_11 (k := 11) rfl (by decide) rfl rfl (kc_11.2.2.2.1 11 (by decide)) rfl rfl wl_851 dX11_takeClause_107 ?_
          obtain ⟨S10, eS10, hf⟩ := gm_lt_s hf
          refine gm_topm eS10 ?_
          refine gm_aload_n C dX11_takeClause_110 rfl 1 rfl ?_
          refine gm_iload_n C dX11_takeClause_111 rfl 0 rfl ?_
          obtain ⟨v11, S12, eS12, hf⟩ := gm_bp2_s hf
          refine gm_callVi (As := [.int x3]) C (Mo_takeBody_c l cf ad eS12) (Nat.le_of_ble_eq_true rfl) rfl kc_11 wy_Mo_takeBody rfl wl_982 rfl ⟨(Nat.le_of_ble_eq_true rfl), (Nat.le_of_ble_eq_true rfl)⟩ rfl (Nat.le_of_ble_eq_true rfl) dX11_takeClause_112 ?_
          refine gm_istore_n (lv' := [(3, .int v11), (2, .int x3), (0, .ref (ad 0))]) C dX11_takeClause_115 rfl (by decide) rfl ?_
          refine gm_iload_n C dX11_takeClause_116 rfl 0 rfl ?_
          refine gm_if_ne C 139 dX11_takeClause_117 (by decide) (fun c13 => ?_) (fun c13 => ?_)
          · have hf := gm_if _ c13 hf
            refine gm_aload_n C dX11_takeClause_139 rfl 2 rfl ?_
            refine gm_dup C dX11_takeClause_140 rfl ?_
            refine gm_geti C (Nat.le_of_ble_eq_true rfl) rfl kc_11 (k := 11) rfl (by decide) rfl wl_851 dX11_takeClause_141 ?_
            refine gm_iconst (v := 1) C dX11_takeClause_144 (by decide) ?_
            refine gm_iadd C dX11_takeClause_145 ?_
            refine gm_puti C (Nat.le_of_ble_eq_true rfl) rfl kc_11 (k := 11) rfl (by decide) rfl rfl (kc_11.2.2.2.1 11 (by decide)) rfl rfl wl_851 dX11_takeClause_146 ?_
            obtain ⟨S14, eS14, hf⟩ := gm_lt_s hf
            refine gm_topm eS14 ?_
            refine gm_iload_n C dX11_takeClause_149 rfl 0 rfl ?_
            exact gm_iret C hr rfl dX11_takeClause_150 hf
          · have hf := gm_it _ c13 hf
            refine gm_aload_n C dX11_takeClause_120 rfl 2 rfl ?_
            obtain ⟨v15, S16, eS16, hf⟩ := gm_bp2_s hf
            refine gm_callVi (As := []) C (Mo_here_c l cf ad eS16) (Nat.le_of_ble_eq_true rfl) rfl kc_11 wy_Mo_here rfl wl_966 rfl ⟨(Nat.le_of_ble_eq_true rfl), (Nat.le_of_ble_eq_true rfl)⟩ rfl (Nat.le_of_ble_eq_true rfl) dX11_takeClause_121 ?_
            refine gm_bipush (v := 59) C dX11_takeClause_124 (by decide) ?_
            refine gm_icmp_eq C 139 dX11_takeClause_126 (by decide) (fun c17 => ?_) (fun c17 => ?_)
            · have hf := gm_it _ c17 hf
              refine gm_aload_n C dX11_takeClause_139 rfl 2 rfl ?_
              refine gm_dup C dX11_takeClause_140 rfl ?_
              refine gm_geti C (Nat.le_of_ble_eq_true rfl) rfl kc_11 (k := 11) rfl (by decide) rfl wl_851 dX11_takeClause_141 ?_
              refine gm_iconst (v := 1) C dX11_takeClause_144 (by decide) ?_
              refine gm_iadd C dX11_takeClause_145 ?_
              refine gm_puti C (Nat.le_of_ble_eq_true rfl) rfl kc_11 (k := 11) rfl (by decide) rfl rfl (kc_11.2.2.2.1 11 (by decide)) rfl rfl wl_851 dX11_takeClause_146 ?_
              obtain ⟨S18, eS18, hf⟩ := gm_lt_s hf
              refine gm_topm eS18 ?_
              refine gm_iload_n C dX11_takeClause_149 rfl 0 rfl ?_
              exact gm_iret C hr rfl dX11_takeClause_150 hf
            · have hf := gm_if _ c17 hf
              refine gm_aload_n C dX11_takeClause_129 rfl 2 rfl ?_
              refine gm_iconst (v := 1) C dX11_takeClause_130 (by decide) ?_
              refine gm_aload_n C dX11_takeClause_131 rfl 2 rfl ?_
              refine gm_geti C (Nat.le_of_ble_eq_true rfl) rfl kc_11 (k := 11) rfl (by decide) rfl wl_851 dX11_takeClause_132 ?_
              obtain ⟨v19, S20, eS20, hf⟩ := gm_bp2_s hf
              refine gm_callVi (As := [.int 1, .int (S16.1 0 11)]) C (Mo_fails_c l cf ad eS20) (Nat.le_of_ble_eq_true rfl) rfl kc_11 wy_Mo_fails rfl wl_974 rfl ⟨(Nat.le_of_ble_eq_true rfl), (Nat.le_of_ble_eq_true rfl)⟩ rfl (Nat.le_of_ble_eq_true rfl) dX11_takeClause_135 ?_
              exact gm_iret C hr rfl dX11_takeClause_138 hf
        · have hf := gm_if _ c9 hf
          refine gm_aload_n C dX11_takeClause_90 rfl 1 rfl ?_
          refine gm_iconst (v := 3) C dX11_takeClause_91 (by decide) ?_
          refine gm_aload_n C dX11_takeClause_92 rfl 1 rfl ?_
          refine gm_geti C (Nat.le_of_ble_eq_true rfl) rfl kc_11 (k := 11) rfl (by decide) rfl wl_851 dX11_takeClause_93 ?_
          obtain ⟨v21, S22, eS22, hf⟩ := gm_bp2_s hf
          refine gm_callVi (As := [.int 3, .int (S2.1 0 11)]) C (Mo_fails_c l cf ad eS22) (Nat.le_of_ble_eq_true rfl) rfl kc_11 wy_Mo_fails rfl wl_974 rfl ⟨(Nat.le_of_ble_eq_true rfl), (Nat.le_of_ble_eq_true rfl)⟩ rfl (Nat.le_of_ble_eq_true rfl) dX11_takeClause_96 ?_
          exact gm_iret C hr rfl dX11_takeClause_99 hf
      · have hf := gm_if _ c7 hf
        refine gm_aload_n C dX11_takeClause_65 rfl 1 rfl ?_
        refine gm_geti C (Nat.le_of_ble_eq_true rfl) rfl kc_11 (k := 14) rfl (by decide) rfl wl_854 dX11_takeClause_66 ?_
        refine gm_if_ne C 82 dX11_takeClause_69 (by decide) (fun c23 => ?_) (fun c23 => ?_)
        · have hf := gm_if _ c23 hf
          refine gm_aload_n C dX11_takeClause_82 rfl 1 rfl ?_
          refine gm_iload_n C dX11_takeClause_83 rfl 0 rfl ?_
          obtain ⟨v24, ev24, hf⟩ := gm_bp1_s hf
          refine gm_callVi (As := [.int x3]) C (Mo_isFull_c l cf ad ev24) (Nat.le_of_ble_eq_true rfl) rfl kc_11 wy_Mo_isFull rfl wl_978 rfl ⟨(Nat.le_of_ble_eq_true rfl), (Nat.le_of_ble_eq_true rfl)⟩ rfl (Nat.le_of_ble_eq_true rfl) dX11_takeClause_84 ?_
          refine gm_if_eq C 100 dX11_takeClause_87 (by decide) (fun c25 => ?_) (fun c25 => ?_)
          · have hf := gm_it _ c25 hf
            refine gm_aload_n C dX11_takeClause_100 rfl 1 rfl ?_
            refine gm_dup C dX11_takeClause_101 rfl ?_
            refine gm_geti C (Nat.le_of_ble_eq_true rfl) rfl kc_11 (k := 11) rfl (by decide) rfl wl_851 dX11_takeClause_102 ?_
            refine gm_iconst (v := 1) C dX11_takeClause_105 (by decide) ?_
            refine gm_iadd C dX11_takeClause_106 ?_
            refine gm_puti C (Nat.le_of_ble_eq_true rfl) rfl kc_11 (k := 11) rfl (by decide) rfl rfl (kc_11.2.2.2.1 11 (by decide)) rfl rfl wl_851 dX11_takeClause_107 ?_
            obtain ⟨S26, eS26, hf⟩ := gm_lt_s hf
            refine gm_topm eS26 ?_
            refine gm_aload_n C dX11_takeClause_110 rfl 1 rfl ?_
            refine gm_iload_n C dX11_takeClause_111 rfl 0 rfl ?_
            obtain ⟨v27, S28, eS28, hf⟩ := gm_bp2_s hf
            refine gm_callVi (As := [.int x3]) C (Mo_takeBody_c l cf ad eS28) (Nat.le_of_ble_eq_true rfl) rfl kc_11 wy_Mo_takeBody rfl wl_982 rfl ⟨(Nat.le_of_ble_eq_true rfl), (Nat.le_of_ble_eq_true rfl)⟩ rfl (Nat.le_of_ble_eq_true rfl) dX11_takeClause_112 ?_
            refine gm_istore_n (lv' := [(3, .int v27), (2, .int x3), (0, .ref (ad 0))]) C dX11_takeClause_115 rfl (by decide) rfl ?_
            refine gm_iload_n C dX11_takeClause_116 rfl 0 rfl ?_
            refine gm_if_ne C 139 dX11_takeClause_117 (by decide) (fun c29 => ?_) (fun c29 => ?_)
            · have hf := gm_if _ c29 hf
              refine gm_aload_n C dX11_takeClause_139 rfl 2 rfl ?_
              refine gm_dup C dX11_takeClause_140 rfl ?_
              refine gm_geti C (Nat.le_of_ble_eq_true rfl) rfl kc_11 (k := 11) rfl (by decide) rfl wl_851 dX11_takeClause_141 ?_
              refine gm_iconst (v := 1) C dX11_takeClause_144 (by decide) ?_
              refine gm_iadd C dX11_takeClause_145 ?_
              refine gm_puti C (Nat.le_of_ble_eq_true rfl) rfl kc_11 (k := 11) rfl (by decide) rfl rfl (kc_11.2.2.2.1 11 (by decide)) rfl rfl wl_851 dX11_takeClause_146 ?_
              obtain ⟨S30, eS30, hf⟩ := gm_lt_s hf
              refine gm_topm eS30 ?_
              refine gm_iload_n C dX11_takeClause_149 rfl 0 rfl ?_
              exact gm_iret C hr rfl dX11_takeClause_150 hf
            · have hf := gm_it _ c29 hf
              refine gm_aload_n C dX11_takeClause_120 rfl 2 rfl ?_
              obtain ⟨v31, S32, eS32, hf⟩ := gm_bp2_s hf
              refine gm_callVi (As := []) C (Mo_here_c l cf ad eS32) (Nat.le_of_ble_eq_true rfl) rfl kc_11 wy_Mo_here rfl wl_966 rfl ⟨(Nat.le_of_ble_eq_true rfl), (Nat.le_of_ble_eq_true rfl)⟩ rfl (Nat.le_of_ble_eq_true rfl) dX11_takeClause_121 ?_
              refine gm_bipush (v := 59) C dX11_takeClause_124 (by decide) ?_
              refine gm_icmp_eq C 139 dX11_takeClause_126 (by decide) (fun c33 => ?_) (fun c33 => ?_)
              · have hf := gm_it _ c33 hf
                refine gm_aload_n C dX11_takeClause_139 rfl 2 rfl ?_
                refine gm_dup C dX11_takeClause_140 rfl ?_
                refine gm_geti C (Nat.le_of_ble_eq_true rfl) rfl kc_11 (k := 11) rfl (by decide) rfl wl_851 dX11_takeClause_141 ?_
                refine gm_iconst (v := 1) C dX11_takeClause_144 (by decide) ?_
                refine gm_iadd C dX11_takeClause_145 ?_
                refine gm_puti C (Nat.le_of_ble_eq_true rfl) rfl kc_11 (k := 11) rfl (by decide) rfl rfl (kc_11.2.2.2.1 11 (by decide)) rfl rfl wl_851 dX11_takeClause_146 ?_
                obtain ⟨S34, eS34, hf⟩ := gm_lt_s hf
                refine gm_topm eS34 ?_
                refine gm_iload_n C dX11_takeClause_149 rfl 0 rfl ?_
                exact gm_iret C hr rfl dX11_takeClause_150 hf
              · have hf := gm_if _ c33 hf
                refine gm_aload_n C dX11_takeClause_129 rfl 2 rfl ?_
                refine gm_iconst (v := 1) C dX11_takeClause_130 (by decide) ?_
                refine gm_aload_n C dX11_takeClause_131 rfl 2 rfl ?_
                refine gm_geti C (Nat.le_of_ble_eq_true rfl) rfl kc_11 (k := 11) rfl (by decide) rfl wl_851 dX11_takeClause_132 ?_
                obtain ⟨v35, S36, eS36, hf⟩ := gm_bp2_s hf
                refine gm_callVi (As := [.int 1, .int (S32.1 0 11)]) C (Mo_fails_c l cf ad eS36) (Nat.le_of_ble_eq_true rfl) rfl kc_11 wy_Mo_fails rfl wl_974 rfl ⟨(Nat.le_of_ble_eq_true rfl), (Nat.le_of_ble_eq_true rfl)⟩ rfl (Nat.le_of_ble_eq_true rfl) dX11_takeClause_135 ?_
                exact gm_iret C hr rfl dX11_takeClause_138 hf
          · have hf := gm_if _ c25 hf
            refine gm_aload_n C dX11_takeClause_90 rfl 1 rfl ?_
            refine gm_iconst (v := 3) C dX11_takeClause_91 (by decide) ?_
            refine gm_aload_n C dX11_takeClause_92 rfl 1 rfl ?_
            refine gm_geti C (Nat.le_of_ble_eq_true rfl) rfl kc_11 (k := 11) rfl (by decide) rfl wl_851 dX11_takeClause_93 ?_
            obtain ⟨v37, S38, eS38, hf⟩ := gm_bp2_s hf
            refine gm_callVi (As := [.int 3, .int (S2.1 0 11)]) C (Mo_fails_c l cf ad eS38) (Nat.le_of_ble_eq_true rfl) rfl kc_11 wy_Mo_fails rfl wl_974 rfl ⟨(Nat.le_of_ble_eq_true rfl), (Nat.le_of_ble_eq_true rfl)⟩ rfl (Nat.le_of_ble_eq_true rfl) dX11_takeClause_96 ?_
            exact gm_iret C hr rfl dX11_takeClause_99 hf
        · have hf := gm_it _ c23 hf
          refine gm_aload_n C dX11_takeClause_72 rfl 1 rfl ?_
          refine gm_iconst (v := 1) C dX11_takeClause_73 (by decide) ?_
          refine gm_aload_n C dX11_takeClause_74 rfl 1 rfl ?_
          refine gm_geti C (Nat.le_of_ble_eq_true rfl) rfl kc_11 (k := 11) rfl (by decide) rfl wl_851 dX11_takeClause_75 ?_
          obtain ⟨v39, S40, eS40, hf⟩ := gm_bp2_s hf
          refine gm_callVi (As := [.int 1, .int (S2.1 0 11)]) C (Mo_fails_c l cf ad eS40) (Nat.le_of_ble_eq_true rfl) rfl kc_11 wy_Mo_fails rfl wl_974 rfl ⟨(Nat.le_of_ble_eq_true rfl), (Nat.le_of_ble_eq_true rfl)⟩ rfl (Nat.le_of_ble_eq_true rfl) dX11_takeClause_78 ?_
          exact gm_iret C hr rfl dX11_takeClause_81 hf
  have hf := hx
  refine gm_icmp_ne C 15 dX11_takeClause_8 (by decide) (fun c41 => ?_) (fun c41 => ?_)
  · have hf := gm_if _ c41 hf
    refine gm_iload_n C dX11_takeClause_15 rfl 0 rfl ?_
    refine gm_bipush (v := 109) C dX11_takeClause_16 (by decide) ?_
    refine gm_icmp_ne C 25 dX11_takeClause_18 (by decide) (fun c42 => ?_) (fun c42 => ?_)
    · have hf := gm_if _ c42 hf
      refine gm_iload_n C dX11_takeClause_25 rfl 0 rfl ?_
      refine gm_bipush (v := 114) C dX11_takeClause_26 (by decide) ?_
      refine gm_icmp_ne C 35 dX11_takeClause_28 (by decide) (fun c43 => ?_) (fun c43 => ?_)
      · have hf := gm_if _ c43 hf
        refine gm_iload_n C dX11_takeClause_35 rfl 0 rfl ?_
        refine gm_bipush (v := 110) C dX11_takeClause_36 (by decide) ?_
        refine gm_icmp_ne C 45 dX11_takeClause_38 (by decide) (fun c44 => ?_) (fun c44 => ?_)
        · have hf := gm_if _ c44 hf
          refine gm_iload_n C dX11_takeClause_45 rfl 0 rfl ?_
          refine gm_bipush (v := 112) C dX11_takeClause_46 (by decide) ?_
          refine gm_icmp_ne C 55 dX11_takeClause_48 (by decide) (fun c45 => ?_) (fun c45 => ?_)
          · have hf := gm_if _ c45 hf
            refine gm_iconst (v := (-1)) C dX11_takeClause_55 (by decide) ?_
            cases hf
            exact gm_lvp [1] rfl key
          · have hf := gm_it _ c45 hf
            refine gm_iconst (v := 4) C dX11_takeClause_51 (by decide) ?_
            refine gm_goto C 56 dX11_takeClause_52 (by decide) ?_
            cases hf
            exact gm_lvp [1] rfl key
        · have hf := gm_it _ c44 hf
          refine gm_iconst (v := 3) C dX11_takeClause_41 (by decide) ?_
          refine gm_goto C 56 dX11_takeClause_42 (by decide) ?_
          cases hf
          exact gm_lvp [1] rfl key
      · have hf := gm_it _ c43 hf
        refine gm_iconst (v := 2) C dX11_takeClause_31 (by decide) ?_
        refine gm_goto C 56 dX11_takeClause_32 (by decide) ?_
        cases hf
        exact gm_lvp [1] rfl key
    · have hf := gm_it _ c42 hf
      refine gm_iconst (v := 1) C dX11_takeClause_21 (by decide) ?_
      refine gm_goto C 56 dX11_takeClause_22 (by decide) ?_
      cases hf
      exact gm_lvp [1] rfl key
  · have hf := gm_it _ c41 hf
    refine gm_iconst (v := 0) C dX11_takeClause_11 (by decide) ?_
    refine gm_goto C 56 dX11_takeClause_12 (by decide) ?_
    cases hf
    exact gm_lvp [1] rfl key
theorem dX11_takeRead_0 : decode cX11_takeRead 0 = .ok (.aload_n 0, 1) := by decide +kernel
theorem dX11_takeRead_1 : decode cX11_takeRead 1 = .ok (.aload_n 0, 1) := by decide +kernel
theorem dX11_takeRead_2 : decode cX11_takeRead 2 = .ok (.getfield 126, 3) := by decide +kernel
theorem dX11_takeRead_5 : decode cX11_takeRead 5 = .ok (.putfield 63, 3) := by decide +kernel
theorem dX11_takeRead_8 : decode cX11_takeRead 8 = .ok (.aload_n 0, 1) := by decide +kernel
theorem dX11_takeRead_9 : decode cX11_takeRead 9 = .ok (.aload_n 0, 1) := by decide +kernel
theorem dX11_takeRead_10 : decode cX11_takeRead 10 = .ok (.getfield 129, 3) := by decide +kernel
theorem dX11_takeRead_13 : decode cX11_takeRead 13 = .ok (.putfield 79, 3) := by decide +kernel
theorem dX11_takeRead_16 : decode cX11_takeRead 16 = .ok (.aload_n 0, 1) := by decide +kernel
theorem dX11_takeRead_17 : decode cX11_takeRead 17 = .ok (.aload_n 0, 1) := by decide +kernel
theorem dX11_takeRead_18 : decode cX11_takeRead 18 = .ok (.getfield 139, 3) := by decide +kernel
theorem dX11_takeRead_21 : decode cX11_takeRead 21 = .ok (.putfield 66, 3) := by decide +kernel
theorem dX11_takeRead_24 : decode cX11_takeRead 24 = .ok (.aload_n 0, 1) := by decide +kernel
theorem dX11_takeRead_25 : decode cX11_takeRead 25 = .ok (.aload_n 0, 1) := by decide +kernel
theorem dX11_takeRead_26 : decode cX11_takeRead 26 = .ok (.getfield 150, 3) := by decide +kernel
theorem dX11_takeRead_29 : decode cX11_takeRead 29 = .ok (.putfield 73, 3) := by decide +kernel
theorem dX11_takeRead_32 : decode cX11_takeRead 32 = .ok (.aload_n 0, 1) := by decide +kernel
theorem dX11_takeRead_33 : decode cX11_takeRead 33 = .ok (.aload_n 0, 1) := by decide +kernel
theorem dX11_takeRead_34 : decode cX11_takeRead 34 = .ok (.getfield 153, 3) := by decide +kernel
theorem dX11_takeRead_37 : decode cX11_takeRead 37 = .ok (.putfield 76, 3) := by decide +kernel
theorem dX11_takeRead_40 : decode cX11_takeRead 40 = .ok (.iconst 0, 1) := by decide +kernel
theorem dX11_takeRead_41 : decode cX11_takeRead 41 = .ok (.istore_n 1, 1) := by decide +kernel
theorem dX11_takeRead_42 : decode cX11_takeRead 42 = .ok (.iload_n 1, 1) := by decide +kernel
theorem dX11_takeRead_43 : decode cX11_takeRead 43 = .ok (.bipush 42, 2) := by decide +kernel
theorem dX11_takeRead_45 : decode cX11_takeRead 45 = .ok (.if_icmp .ge 16, 3) := by decide +kernel
theorem dX11_takeRead_48 : decode cX11_takeRead 48 = .ok (.aload_n 0, 1) := by decide +kernel
theorem dX11_takeRead_49 : decode cX11_takeRead 49 = .ok (.getfield 13, 3) := by decide +kernel
theorem dX11_takeRead_52 : decode cX11_takeRead 52 = .ok (.iload_n 1, 1) := by decide +kernel
theorem dX11_takeRead_53 : decode cX11_takeRead 53 = .ok (.iconst 0, 1) := by decide +kernel
theorem dX11_takeRead_54 : decode cX11_takeRead 54 = .ok (.iastore, 1) := by decide +kernel
theorem dX11_takeRead_55 : decode cX11_takeRead 55 = .ok (.iinc 1 1, 3) := by decide +kernel
theorem dX11_takeRead_58 : decode cX11_takeRead 58 = .ok (.goto (-16), 3) := by decide +kernel
theorem dX11_takeRead_61 : decode cX11_takeRead 61 = .ok (.aload_n 0, 1) := by decide +kernel
theorem dX11_takeRead_62 : decode cX11_takeRead 62 = .ok (.getfield 13, 3) := by decide +kernel
theorem dX11_takeRead_65 : decode cX11_takeRead 65 = .ok (.iconst 0, 1) := by decide +kernel
theorem dX11_takeRead_66 : decode cX11_takeRead 66 = .ok (.aload_n 0, 1) := by decide +kernel
theorem dX11_takeRead_67 : decode cX11_takeRead 67 = .ok (.getfield 136, 3) := by decide +kernel
theorem dX11_takeRead_70 : decode cX11_takeRead 70 = .ok (.iastore, 1) := by decide +kernel
theorem dX11_takeRead_71 : decode cX11_takeRead 71 = .ok (.iconst 0, 1) := by decide +kernel
theorem dX11_takeRead_72 : decode cX11_takeRead 72 = .ok (.istore_n 1, 1) := by decide +kernel
theorem dX11_takeRead_73 : decode cX11_takeRead 73 = .ok (.iload_n 1, 1) := by decide +kernel
theorem dX11_takeRead_74 : decode cX11_takeRead 74 = .ok (.aload_n 0, 1) := by decide +kernel
theorem dX11_takeRead_75 : decode cX11_takeRead 75 = .ok (.getfield 66, 3) := by decide +kernel
theorem dX11_takeRead_78 : decode cX11_takeRead 78 = .ok (.if_icmp .ge 52, 3) := by decide +kernel
theorem dX11_takeRead_81 : decode cX11_takeRead 81 = .ok (.aload_n 0, 1) := by decide +kernel
theorem dX11_takeRead_82 : decode cX11_takeRead 82 = .ok (.getfield 13, 3) := by decide +kernel
theorem dX11_takeRead_85 : decode cX11_takeRead 85 = .ok (.iconst 1, 1) := by decide +kernel
theorem dX11_takeRead_86 : decode cX11_takeRead 86 = .ok (.iload_n 1, 1) := by decide +kernel
theorem dX11_takeRead_87 : decode cX11_takeRead 87 = .ok (.iadd, 1) := by decide +kernel
theorem dX11_takeRead_88 : decode cX11_takeRead 88 = .ok (.aload_n 0, 1) := by decide +kernel
theorem dX11_takeRead_89 : decode cX11_takeRead 89 = .ok (.getfield 23, 3) := by decide +kernel
theorem dX11_takeRead_92 : decode cX11_takeRead 92 = .ok (.iload_n 1, 1) := by decide +kernel
theorem dX11_takeRead_93 : decode cX11_takeRead 93 = .ok (.iaload, 1) := by decide +kernel
theorem dX11_takeRead_94 : decode cX11_takeRead 94 = .ok (.iastore, 1) := by decide +kernel
theorem dX11_takeRead_95 : decode cX11_takeRead 95 = .ok (.aload_n 0, 1) := by decide +kernel
theorem dX11_takeRead_96 : decode cX11_takeRead 96 = .ok (.getfield 13, 3) := by decide +kernel
theorem dX11_takeRead_99 : decode cX11_takeRead 99 = .ok (.iconst 5, 1) := by decide +kernel
theorem dX11_takeRead_100 : decode cX11_takeRead 100 = .ok (.iload_n 1, 1) := by decide +kernel
theorem dX11_takeRead_101 : decode cX11_takeRead 101 = .ok (.iadd, 1) := by decide +kernel
theorem dX11_takeRead_102 : decode cX11_takeRead 102 = .ok (.aload_n 0, 1) := by decide +kernel
theorem dX11_takeRead_103 : decode cX11_takeRead 103 = .ok (.getfield 26, 3) := by decide +kernel
theorem dX11_takeRead_106 : decode cX11_takeRead 106 = .ok (.iload_n 1, 1) := by decide +kernel
theorem dX11_takeRead_107 : decode cX11_takeRead 107 = .ok (.iaload, 1) := by decide +kernel
theorem dX11_takeRead_108 : decode cX11_takeRead 108 = .ok (.iastore, 1) := by decide +kernel
theorem dX11_takeRead_109 : decode cX11_takeRead 109 = .ok (.aload_n 0, 1) := by decide +kernel
theorem dX11_takeRead_110 : decode cX11_takeRead 110 = .ok (.getfield 13, 3) := by decide +kernel
theorem dX11_takeRead_113 : decode cX11_takeRead 113 = .ok (.bipush 9, 2) := by decide +kernel
theorem dX11_takeRead_115 : decode cX11_takeRead 115 = .ok (.iload_n 1, 1) := by decide +kernel
theorem dX11_takeRead_116 : decode cX11_takeRead 116 = .ok (.iadd, 1) := by decide +kernel
theorem dX11_takeRead_117 : decode cX11_takeRead 117 = .ok (.aload_n 0, 1) := by decide +kernel
theorem dX11_takeRead_118 : decode cX11_takeRead 118 = .ok (.getfield 29, 3) := by decide +kernel
theorem dX11_takeRead_121 : decode cX11_takeRead 121 = .ok (.iload_n 1, 1) := by decide +kernel
theorem dX11_takeRead_122 : decode cX11_takeRead 122 = .ok (.iaload, 1) := by decide +kernel
theorem dX11_takeRead_123 : decode cX11_takeRead 123 = .ok (.iastore, 1) := by decide +kernel
theorem dX11_takeRead_124 : decode cX11_takeRead 124 = .ok (.iinc 1 1, 3) := by decide +kernel
theorem dX11_takeRead_127 : decode cX11_takeRead 127 = .ok (.goto (-54), 3) := by decide +kernel
theorem dX11_takeRead_130 : decode cX11_takeRead 130 = .ok (.iconst 0, 1) := by decide +kernel
theorem dX11_takeRead_131 : decode cX11_takeRead 131 = .ok (.istore_n 1, 1) := by decide +kernel
theorem dX11_takeRead_132 : decode cX11_takeRead 132 = .ok (.iload_n 1, 1) := by decide +kernel
theorem dX11_takeRead_133 : decode cX11_takeRead 133 = .ok (.aload_n 0, 1) := by decide +kernel
theorem dX11_takeRead_134 : decode cX11_takeRead 134 = .ok (.getfield 73, 3) := by decide +kernel
theorem dX11_takeRead_137 : decode cX11_takeRead 137 = .ok (.if_icmp .ge 39, 3) := by decide +kernel
theorem dX11_takeRead_140 : decode cX11_takeRead 140 = .ok (.aload_n 0, 1) := by decide +kernel
theorem dX11_takeRead_141 : decode cX11_takeRead 141 = .ok (.getfield 13, 3) := by decide +kernel
theorem dX11_takeRead_144 : decode cX11_takeRead 144 = .ok (.bipush 13, 2) := by decide +kernel
theorem dX11_takeRead_146 : decode cX11_takeRead 146 = .ok (.iload_n 1, 1) := by decide +kernel
theorem dX11_takeRead_147 : decode cX11_takeRead 147 = .ok (.iadd, 1) := by decide +kernel
theorem dX11_takeRead_148 : decode cX11_takeRead 148 = .ok (.aload_n 0, 1) := by decide +kernel
theorem dX11_takeRead_149 : decode cX11_takeRead 149 = .ok (.getfield 32, 3) := by decide +kernel
theorem dX11_takeRead_152 : decode cX11_takeRead 152 = .ok (.iload_n 1, 1) := by decide +kernel
theorem dX11_takeRead_153 : decode cX11_takeRead 153 = .ok (.iaload, 1) := by decide +kernel
theorem dX11_takeRead_154 : decode cX11_takeRead 154 = .ok (.iastore, 1) := by decide +kernel
theorem dX11_takeRead_155 : decode cX11_takeRead 155 = .ok (.aload_n 0, 1) := by decide +kernel
theorem dX11_takeRead_156 : decode cX11_takeRead 156 = .ok (.getfield 13, 3) := by decide +kernel
theorem dX11_takeRead_159 : decode cX11_takeRead 159 = .ok (.bipush 17, 2) := by decide +kernel
theorem dX11_takeRead_161 : decode cX11_takeRead 161 = .ok (.iload_n 1, 1) := by decide +kernel
theorem dX11_takeRead_162 : decode cX11_takeRead 162 = .ok (.iadd, 1) := by decide +kernel
theorem dX11_takeRead_163 : decode cX11_takeRead 163 = .ok (.aload_n 0, 1) := by decide +kernel
theorem dX11_takeRead_164 : decode cX11_takeRead 164 = .ok (.getfield 35, 3) := by decide +kernel
theorem dX11_takeRead_167 : decode cX11_takeRead 167 = .ok (.iload_n 1, 1) := by decide +kernel
theorem dX11_takeRead_168 : decode cX11_takeRead 168 = .ok (.iaload, 1) := by decide +kernel
theorem dX11_takeRead_169 : decode cX11_takeRead 169 = .ok (.iastore, 1) := by decide +kernel
theorem dX11_takeRead_170 : decode cX11_takeRead 170 = .ok (.iinc 1 1, 3) := by decide +kernel
theorem dX11_takeRead_173 : decode cX11_takeRead 173 = .ok (.goto (-41), 3) := by decide +kernel
theorem dX11_takeRead_176 : decode cX11_takeRead 176 = .ok (.iconst 0, 1) := by decide +kernel
theorem dX11_takeRead_177 : decode cX11_takeRead 177 = .ok (.istore_n 1, 1) := by decide +kernel
theorem dX11_takeRead_178 : decode cX11_takeRead 178 = .ok (.iload_n 1, 1) := by decide +kernel
theorem dX11_takeRead_179 : decode cX11_takeRead 179 = .ok (.aload_n 0, 1) := by decide +kernel
theorem dX11_takeRead_180 : decode cX11_takeRead 180 = .ok (.getfield 76, 3) := by decide +kernel
theorem dX11_takeRead_183 : decode cX11_takeRead 183 = .ok (.if_icmp .ge 21, 3) := by decide +kernel
theorem dX11_takeRead_186 : decode cX11_takeRead 186 = .ok (.aload_n 0, 1) := by decide +kernel
theorem dX11_takeRead_187 : decode cX11_takeRead 187 = .ok (.getfield 7, 3) := by decide +kernel
theorem dX11_takeRead_190 : decode cX11_takeRead 190 = .ok (.iload_n 1, 1) := by decide +kernel
theorem dX11_takeRead_191 : decode cX11_takeRead 191 = .ok (.aload_n 0, 1) := by decide +kernel
theorem dX11_takeRead_192 : decode cX11_takeRead 192 = .ok (.getfield 38, 3) := by decide +kernel
theorem dX11_takeRead_195 : decode cX11_takeRead 195 = .ok (.iload_n 1, 1) := by decide +kernel
theorem dX11_takeRead_196 : decode cX11_takeRead 196 = .ok (.iaload, 1) := by decide +kernel
theorem dX11_takeRead_197 : decode cX11_takeRead 197 = .ok (.iastore, 1) := by decide +kernel
theorem dX11_takeRead_198 : decode cX11_takeRead 198 = .ok (.iinc 1 1, 3) := by decide +kernel
theorem dX11_takeRead_201 : decode cX11_takeRead 201 = .ok (.goto (-23), 3) := by decide +kernel
theorem dX11_takeRead_204 : decode cX11_takeRead 204 = .ok (.return_, 1) := by decide +kernel
def Mo_takeRead_L42_b  (rec : Int32 → gm_M → Option (gm_M)) (y6 : Int32) (S7 : gm_M) : Option (gm_M) :=
  if (42 : Int32) ≤ y6 then (
    some (S7)
  ) else (
    gm_ck (y6) 42 <|
    gm_lt (α := gm_M) (gm_ui S7 2 (y6.toNatClampNeg) 0) fun S11 =>
    gm_lt (α := Int32) (y6 + 1) fun x12 =>
    rec x12 S11
  )
def Mo_takeRead_L42  : Nat → Int32 → gm_M → Option (gm_M)
  | 0 => fun _ _ => none
  | n + 1 => Mo_takeRead_L42_b  (Mo_takeRead_L42  n)
def Mo_takeRead_L73_b  (rec : Int32 → gm_M → Option (gm_M)) (y15 : Int32) (S16 : gm_M) : Option (gm_M) :=
  if S16.1 0 2 ≤ y15 then (
    some (S16)
  ) else (
    gm_ck (y15) 4 <|
    gm_ck (1 + y15) 42 <|
    gm_lt (α := gm_M) (gm_ui S16 2 ((1 + y15).toNatClampNeg) (S16.1 4 y15.toNatClampNeg)) fun S21 =>
    gm_ck (y15) 4 <|
    gm_ck (5 + y15) 42 <|
    gm_lt (α := gm_M) (gm_ui S21 2 ((5 + y15).toNatClampNeg) (S21.1 5 y15.toNatClampNeg)) fun S24 =>
    gm_ck (y15) 4 <|
    gm_ck (9 + y15) 42 <|
    gm_lt (α := gm_M) (gm_ui S24 2 ((9 + y15).toNatClampNeg) (S24.1 6 y15.toNatClampNeg)) fun S27 =>
    gm_lt (α := Int32) (y15 + 1) fun x28 =>
    rec x28 S27
  )
def Mo_takeRead_L73  : Nat → Int32 → gm_M → Option (gm_M)
  | 0 => fun _ _ => none
  | n + 1 => Mo_takeRead_L73_b  (Mo_takeRead_L73  n)
def Mo_takeRead_L132_b  (rec : Int32 → gm_M → Option (gm_M)) (y29 : Int32) (S30 : gm_M) : Option (gm_M) :=
  if S30.1 0 3 ≤ y29 then (
    some (S30)
  ) else (
    gm_ck (y29) 4 <|
    gm_ck (13 + y29) 42 <|
    gm_lt (α := gm_M) (gm_ui S30 2 ((13 + y29).toNatClampNeg) (S30.1 7 y29.toNatClampNeg)) fun S35 =>
    gm_ck (y29) 4 <|
    gm_ck (17 + y29) 42 <|
    gm_lt (α := gm_M) (gm_ui S35 2 ((17 + y29).toNatClampNeg) (S35.1 8 y29.toNatClampNeg)) fun S38 =>
    gm_lt (α := Int32) (y29 + 1) fun x39 =>
    rec x39 S38
  )
def Mo_takeRead_L132  : Nat → Int32 → gm_M → Option (gm_M)
  | 0 => fun _ _ => none
  | n + 1 => Mo_takeRead_L132_b  (Mo_takeRead_L132  n)
def Mo_takeRead_L178_b  (rec : Int32 → gm_M → Option (gm_M)) (y40 : Int32) (S41 : gm_M) : Option (gm_M) :=
  if S41.1 0 4 ≤ y40 then (
    some (S41)
  ) else (
    gm_ck (y40) 5 <|
    gm_ck (y40) 5 <|
    gm_lt (α := gm_M) (gm_ui S41 1 (y40.toNatClampNeg) (S41.1 9 y40.toNatClampNeg)) fun S46 =>
    gm_lt (α := Int32) (y40 + 1) fun x47 =>
    rec x47 S46
  )
def Mo_takeRead_L178  : Nat → Int32 → gm_M → Option (gm_M)
  | 0 => fun _ _ => none
  | n + 1 => Mo_takeRead_L178_b  (Mo_takeRead_L178  n)
def Mo_takeRead (fl : Nat) (S : gm_M) : Option gm_M :=
  gm_lt (α := gm_M) (gm_ui S 0 0 (S.1 0 14)) fun S1 =>
  gm_lt (α := gm_M) (gm_ui S1 0 1 (S1.1 0 15)) fun S2 =>
  gm_lt (α := gm_M) (gm_ui S2 0 2 (S2.1 0 18)) fun S3 =>
  gm_lt (α := gm_M) (gm_ui S3 0 3 (S3.1 0 22)) fun S4 =>
  gm_lt (α := gm_M) (gm_ui S4 0 4 (S4.1 0 25)) fun S5 =>
  gm_bp1 (Mo_takeRead_L42  fl 0 S5) fun S8 =>
  gm_ck (0) 42 <|
  gm_lt (α := gm_M) (gm_ui S8 2 ((0 : Int32).toNatClampNeg) (S8.1 0 17)) fun S14 =>
  gm_bp1 (Mo_takeRead_L73  fl 0 S14) fun S17 =>
  gm_bp1 (Mo_takeRead_L132  fl 0 S17) fun S31 =>
  gm_bp1 (Mo_takeRead_L178  fl 0 S31) fun S42 =>
  some S42
set_option maxHeartbeats 4000000 in
set_option maxRecDepth 100000 in
theorem Mo_takeRead_c (l : Launch) (cf : gm_C) (ad : Nat → Nat) {fl : Nat}    {S : gm_M}  {S'  : gm_M} (hf : Mo_takeRead fl S = some S') : gm_Met l yX11_takeRead cX11_takeRead 2 none 0 0 cf ad gm_sM 17 [.ref (ad 0)] S none S' := by
  refine gm_met (by decide +kernel) (Nat.le_of_ble_eq_true rfl) ?_
  intro p e s m args below meth c C hr
  have C : gm_F p s m args meth c cf ad 17 cX11_takeRead 2 RX11 := C
  refine gm_lve (lv' := [(0, .ref (ad 0))]) rfl ?_
  unfold Mo_takeRead at hf
  refine gm_aload_n C dX11_takeRead_0 rfl 0 rfl ?_
  refine gm_aload_n C dX11_takeRead_1 rfl 0 rfl ?_
  refine gm_geti C (Nat.le_of_ble_eq_true rfl) rfl kc_11 (k := 14) rfl (by decide) rfl wl_854 dX11_takeRead_2 ?_
  refine gm_puti C (Nat.le_of_ble_eq_true rfl) rfl kc_11 (k := 0) rfl (by decide) rfl rfl (kc_11.2.2.2.1 0 (by decide)) rfl rfl wl_840 dX11_takeRead_5 ?_
  obtain ⟨S1, eS1, hf⟩ := gm_lt_s hf
  refine gm_topm eS1 ?_
  refine gm_aload_n C dX11_takeRead_8 rfl 0 rfl ?_
  refine gm_aload_n C dX11_takeRead_9 rfl 0 rfl ?_
  refine gm_geti C (Nat.le_of_ble_eq_true rfl) rfl kc_11 (k := 15) rfl (by decide) rfl wl_855 dX11_takeRead_10 ?_
  refine gm_puti C (Nat.le_of_ble_eq_true rfl) rfl kc_11 (k := 1) rfl (by decide) rfl rfl (kc_11.2.2.2.1 1 (by decide)) rfl rfl wl_841 dX11_takeRead_13 ?_
  obtain ⟨S2, eS2, hf⟩ := gm_lt_s hf
  refine gm_topm eS2 ?_
  refine gm_aload_n C dX11_takeRead_16 rfl 0 rfl ?_
  refine gm_aload_n C dX11_takeRead_17 rfl 0 rfl ?_
  refine gm_geti C (Nat.le_of_ble_eq_true rfl) rfl kc_11 (k := 18) rfl (by decide) rfl wl_858 dX11_takeRead_18 ?_
  refine gm_puti C (Nat.le_of_ble_eq_true rfl) rfl kc_11 (k := 2) rfl (by decide) rfl rfl (kc_11.2.2.2.1 2 (by decide)) rfl rfl wl_842 dX11_takeRead_21 ?_
  obtain ⟨S3, eS3, hf⟩ := gm_lt_s hf
  refine gm_topm eS3 ?_
  refine gm_aload_n C dX11_takeRead_24 rfl 0 rfl ?_
  refine gm_aload_n C dX11_takeRead_25 rfl 0 rfl ?_
  refine gm_geti C (Nat.le_of_ble_eq_true rfl) rfl kc_11 (k := 22) rfl (by decide) rfl wl_862 dX11_takeRead_26 ?_
  refine gm_puti C (Nat.le_of_ble_eq_true rfl) rfl kc_11 (k := 3) rfl (by decide) rfl rfl (kc_11.2.2.2.1 3 (by decide)) rfl rfl wl_843 dX11_takeRead_29 ?_
  obtain ⟨S4, eS4, hf⟩ := gm_lt_s hf
  refine gm_topm eS4 ?_
  refine gm_aload_n C dX11_takeRead_32 rfl 0 rfl ?_
  refine gm_aload_n C dX11_takeRead_33 rfl 0 rfl ?_
  refine gm_geti C (Nat.le_of_ble_eq_true rfl) rfl kc_11 (k := 25) rfl (by decide) rfl wl_865 dX11_takeRead_34 ?_
  refine gm_puti C (Nat.le_of_ble_eq_true rfl) rfl kc_11 (k := 4) rfl (by decide) rfl rfl (kc_11.2.2.2.1 4 (by decide)) rfl rfl wl_844 dX11_takeRead_37 ?_
  obtain ⟨S5, eS5, hf⟩ := gm_lt_s hf
  refine gm_topm eS5 ?_
  refine gm_iconst (v := 0) C dX11_takeRead_40 (by decide) ?_
  refine gm_istore_n (lv' := [(1, .int 0), (0, .ref (ad 0))]) C dX11_takeRead_41 rfl (by decide) rfl ?_
  have L42 : ∀ (n : Nat) (y6 : Int32) (S7 : gm_M) (S8 : gm_M), Mo_takeRead_L42  n y6 S7 = some (S8) → gm_G p l e { frames := 0, cells := 0, slots := 0, locals := 0 } s m args below meth c (MQ below (gm_Q cf ad gm_sM 17 none S') args s 0 0 (gm_A ad 17)) cf ad gm_sM 17 2 S8 61 [(0, .ref (ad 0))] [] → gm_G p l e { frames := 0, cells := 0, slots := 0, locals := 0 } s m args below meth c (MQ below (gm_Q cf ad gm_sM 17 none S') args s 0 0 (gm_A ad 17)) cf ad gm_sM 17 2 S7 42 [(0, .ref (ad 0)), (1, .int y6)] [] := by
    intro n
    induction n with
    | zero => intro y6 S7 S8 hf K; cases (show (none : Option _) = some _ from hf)
    | succ n ih =>
      intro y6 S7 S8 hf K
      have hf : Mo_takeRead_L42_b  (Mo_takeRead_L42  n) y6 S7 = some (S8) := hf
      unfold Mo_takeRead_L42_b at hf
      refine gm_iload_n C dX11_takeRead_42 rfl 1 rfl ?_
      refine gm_bipush (v := 42) C dX11_takeRead_43 (by decide) ?_
      refine gm_icmp_ge C 61 dX11_takeRead_45 (by decide) (fun c9 => ?_) (fun c9 => ?_)
      · have hf := gm_it _ c9 hf
        cases hf
        exact gm_lvp [0] rfl K
      · have hf := gm_if _ c9 hf
        refine gm_aload_n C dX11_takeRead_48 rfl 0 rfl ?_
        refine gm_getr (j := 2) (u := 2) C (Nat.le_of_ble_eq_true rfl) rfl kc_11 (k := 6) rfl (by decide) rfl rfl wl_846 dX11_takeRead_49 ?_
        refine gm_iload_n C dX11_takeRead_52 rfl 1 rfl ?_
        refine gm_iconst (v := 0) C dX11_takeRead_53 (by decide) ?_
        obtain ⟨h10, hf⟩ := gm_ck_s hf
        refine gm_iast C (Nat.le_of_ble_eq_true rfl) rfl rfl h10 dX11_takeRead_54 ?_
        obtain ⟨S11, eS11, hf⟩ := gm_lt_s hf
        refine gm_topm eS11 ?_
        obtain ⟨x12, ex12, hf⟩ := gm_lt_s hf
        refine gm_iinc (v := x12) (lv' := [(1, .int x12), (0, .ref (ad 0))]) (j := 1) C dX11_takeRead_55 rfl (by rw [ex12]; rfl) (by decide) rfl ?_
        refine gm_goto C 42 dX11_takeRead_58 (by decide) ?_
        exact gm_lvp [1, 0] rfl (ih _ _ _ hf K)
  obtain ⟨S8, hx, hf⟩ := gm_bp1_s hf
  refine gm_lvp [1, 0] rfl (L42 fl _ _ _ hx ?_)
  refine gm_aload_n C dX11_takeRead_61 rfl 0 rfl ?_
  refine gm_getr (j := 2) (u := 2) C (Nat.le_of_ble_eq_true rfl) rfl kc_11 (k := 6) rfl (by decide) rfl rfl wl_846 dX11_takeRead_62 ?_
  refine gm_iconst (v := 0) C dX11_takeRead_65 (by decide) ?_
  refine gm_aload_n C dX11_takeRead_66 rfl 0 rfl ?_
  refine gm_geti C (Nat.le_of_ble_eq_true rfl) rfl kc_11 (k := 17) rfl (by decide) rfl wl_857 dX11_takeRead_67 ?_
  obtain ⟨h13, hf⟩ := gm_ck_s hf
  refine gm_iast C (Nat.le_of_ble_eq_true rfl) rfl rfl h13 dX11_takeRead_70 ?_
  obtain ⟨S14, eS14, hf⟩ := gm_lt_s hf
  refine gm_topm eS14 ?_
  refine gm_iconst (v := 0) C dX11_takeRead_71 (by decide) ?_
  refine gm_istore_n (lv' := [(1, .int 0), (0, .ref (ad 0))]) C dX11_takeRead_72 rfl (by decide) rfl ?_
  have L73 : ∀ (n : Nat) (y15 : Int32) (S16 : gm_M) (S17 : gm_M), Mo_takeRead_L73  n y15 S16 = some (S17) → gm_G p l e { frames := 0, cells := 0, slots := 0, locals := 0 } s m args below meth c (MQ below (gm_Q cf ad gm_sM 17 none S') args s 0 0 (gm_A ad 17)) cf ad gm_sM 17 2 S17 130 [(0, .ref (ad 0))] [] → gm_G p l e { frames := 0, cells := 0, slots := 0, locals := 0 } s m args below meth c (MQ below (gm_Q cf ad gm_sM 17 none S') args s 0 0 (gm_A ad 17)) cf ad gm_sM 17 2 S16 73 [(0, .ref (ad 0)), (1, .int y15)] [] := by
    intro n
    induction n with
    | zero => intro y15 S16 S17 hf K; cases (show (none : Option _) = some _ from hf)
    | succ n ih =>
      intro y15 S16 S17 hf K
      have hf : Mo_takeRead_L73_b  (Mo_takeRead_L73  n) y15 S16 = some (S17) := hf
      unfold Mo_takeRead_L73_b at hf
      refine gm_iload_n C dX11_takeRead_73 rfl 1 rfl ?_
      refine gm_aload_n C dX11_takeRead_74 rfl 0 rfl ?_
      refine gm_geti C (Nat.le_of_ble_eq_true rfl) rfl kc_11 (k := 2) rfl (by decide) rfl wl_842 dX11_takeRead_75 ?_
      refine gm_icmp_ge C 130 dX11_takeRead_78 (by decide) (fun c18 => ?_) (fun c18 => ?_)
      · have hf := gm_it _ c18 hf
        cases hf
        exact gm_lvp [0] rfl K
      · have hf := gm_if _ c18 hf
        refine gm_aload_n C dX11_takeRead_81 rfl 0 rfl ?_
        refine gm_getr (j := 2) (u := 2) C (Nat.le_of_ble_eq_true rfl) rfl kc_11 (k := 6) rfl (by decide) rfl rfl wl_846 dX11_takeRead_82 ?_
        refine gm_iconst (v := 1) C dX11_takeRead_85 (by decide) ?_
        refine gm_iload_n C dX11_takeRead_86 rfl 1 rfl ?_
        refine gm_iadd C dX11_takeRead_87 ?_
        refine gm_aload_n C dX11_takeRead_88 rfl 0 rfl ?_
        refine gm_getr (j := 4) (u := 4) C (Nat.le_of_ble_eq_true rfl) rfl kc_11 (k := 19) rfl (by decide) rfl rfl wl_859 dX11_takeRead_89 ?_
        refine gm_iload_n C dX11_takeRead_92 rfl 1 rfl ?_
        obtain ⟨h19, hf⟩ := gm_ck_s hf
        refine gm_iald C (Nat.le_of_ble_eq_true rfl) rfl rfl h19 dX11_takeRead_93 ?_
        obtain ⟨h20, hf⟩ := gm_ck_s hf
        refine gm_iast C (Nat.le_of_ble_eq_true rfl) rfl rfl h20 dX11_takeRead_94 ?_
        obtain ⟨S21, eS21, hf⟩ := gm_lt_s hf
        refine gm_topm eS21 ?_
        refine gm_aload_n C dX11_takeRead_95 rfl 0 rfl ?_
        refine gm_getr (j := 2) (u := 2) C (Nat.le_of_ble_eq_true rfl) rfl kc_11 (k := 6) rfl (by decide) rfl rfl wl_846 dX11_takeRead_96 ?_
        refine gm_iconst (v := 5) C dX11_takeRead_99 (by decide) ?_
        refine gm_iload_n C dX11_takeRead_100 rfl 1 rfl ?_
        refine gm_iadd C dX11_takeRead_101 ?_
        refine gm_aload_n C dX11_takeRead_102 rfl 0 rfl ?_
        refine gm_getr (j := 5) (u := 5) C (Nat.le_of_ble_eq_true rfl) rfl kc_11 (k := 20) rfl (by decide) rfl rfl wl_860 dX11_takeRead_103 ?_
        refine gm_iload_n C dX11_takeRead_106 rfl 1 rfl ?_
        obtain ⟨h22, hf⟩ := gm_ck_s hf
        refine gm_iald C (Nat.le_of_ble_eq_true rfl) rfl rfl h22 dX11_takeRead_107 ?_
        obtain ⟨h23, hf⟩ := gm_ck_s hf
        refine gm_iast C (Nat.le_of_ble_eq_true rfl) rfl rfl h23 dX11_takeRead_108 ?_
        obtain ⟨S24, eS24, hf⟩ := gm_lt_s hf
        refine gm_topm eS24 ?_
        refine gm_aload_n C dX11_takeRead_109 rfl 0 rfl ?_
        refine gm_getr (j := 2) (u := 2) C (Nat.le_of_ble_eq_true rfl) rfl kc_11 (k := 6) rfl (by decide) rfl rfl wl_846 dX11_takeRead_110 ?_
        refine gm_bipush (v := 9) C dX11_takeRead_113 (by decide) ?_
        refine gm_iload_n C dX11_takeRead_115 rfl 1 rfl ?_
        refine gm_iadd C dX11_takeRead_116 ?_
        refine gm_aload_n C dX11_takeRead_117 rfl 0 rfl ?_
        refine gm_getr (j := 6) (u := 6) C (Nat.le_of_ble_eq_true rfl) rfl kc_11 (k := 21) rfl (by decide) rfl rfl wl_861 dX11_takeRead_118 ?_
        refine gm_iload_n C dX11_takeRead_121 rfl 1 rfl ?_
        obtain ⟨h25, hf⟩ := gm_ck_s hf
        refine gm_iald C (Nat.le_of_ble_eq_true rfl) rfl rfl h25 dX11_takeRead_122 ?_
        obtain ⟨h26, hf⟩ := gm_ck_s hf
        refine gm_iast C (Nat.le_of_ble_eq_true rfl) rfl rfl h26 dX11_takeRead_123 ?_
        obtain ⟨S27, eS27, hf⟩ := gm_lt_s hf
        refine gm_topm eS27 ?_
        obtain ⟨x28, ex28, hf⟩ := gm_lt_s hf
        refine gm_iinc (v := x28) (lv' := [(1, .int x28), (0, .ref (ad 0))]) (j := 1) C dX11_takeRead_124 rfl (by rw [ex28]; rfl) (by decide) rfl ?_
        refine gm_goto C 73 dX11_takeRead_127 (by decide) ?_
        exact gm_lvp [1, 0] rfl (ih _ _ _ hf K)
  obtain ⟨S17, hx, hf⟩ := gm_bp1_s hf
  refine gm_lvp [1, 0] rfl (L73 fl _ _ _ hx ?_)
  refine gm_iconst (v := 0) C dX11_takeRead_130 (by decide) ?_
  refine gm_istore_n (lv' := [(1, .int 0), (0, .ref (ad 0))]) C dX11_takeRead_131 rfl (by decide) rfl ?_
  have L132 : ∀ (n : Nat) (y29 : Int32) (S30 : gm_M) (S31 : gm_M), Mo_takeRead_L132  n y29 S30 = some (S31) → gm_G p l e { frames := 0, cells := 0, slots := 0, locals := 0 } s m args below meth c (MQ below (gm_Q cf ad gm_sM 17 none S') args s 0 0 (gm_A ad 17)) cf ad gm_sM 17 2 S31 176 [(0, .ref (ad 0))] [] → gm_G p l e { frames := 0, cells := 0, slots := 0, locals := 0 } s m args below meth c (MQ below (gm_Q cf ad gm_sM 17 none S') args s 0 0 (gm_A ad 17)) cf ad gm_sM 17 2 S30 132 [(0, .ref (ad 0)), (1, .int y29)] [] := by
    intro n
    induction n with
    | zero => intro y29 S30 S31 hf K; cases (show (none : Option _) = some _ from hf)
    | succ n ih =>
      intro y29 S30 S31 hf K
      have hf : Mo_takeRead_L132_b  (Mo_takeRead_L132  n) y29 S30 = some (S31) := hf
      unfold Mo_takeRead_L132_b at hf
      refine gm_iload_n C dX11_takeRead_132 rfl 1 rfl ?_
      refine gm_aload_n C dX11_takeRead_133 rfl 0 rfl ?_
      refine gm_geti C (Nat.le_of_ble_eq_true rfl) rfl kc_11 (k := 3) rfl (by decide) rfl wl_843 dX11_takeRead_134 ?_
      refine gm_icmp_ge C 176 dX11_takeRead_137 (by decide) (fun c32 => ?_) (fun c32 => ?_)
      · have hf := gm_it _ c32 hf
        cases hf
        exact gm_lvp [0] rfl K
      · have hf := gm_if _ c32 hf
        refine gm_aload_n C dX11_takeRead_140 rfl 0 rfl ?_
        refine gm_getr (j := 2) (u := 2) C (Nat.le_of_ble_eq_true rfl) rfl kc_11 (k := 6) rfl (by decide) rfl rfl wl_846 dX11_takeRead_141 ?_
        refine gm_bipush (v := 13) C dX11_takeRead_144 (by decide) ?_
        refine gm_iload_n C dX11_takeRead_146 rfl 1 rfl ?_
        refine gm_iadd C dX11_takeRead_147 ?_
        refine gm_aload_n C dX11_takeRead_148 rfl 0 rfl ?_
        refine gm_getr (j := 7) (u := 7) C (Nat.le_of_ble_eq_true rfl) rfl kc_11 (k := 23) rfl (by decide) rfl rfl wl_863 dX11_takeRead_149 ?_
        refine gm_iload_n C dX11_takeRead_152 rfl 1 rfl ?_
        obtain ⟨h33, hf⟩ := gm_ck_s hf
        refine gm_iald C (Nat.le_of_ble_eq_true rfl) rfl rfl h33 dX11_takeRead_153 ?_
        obtain ⟨h34, hf⟩ := gm_ck_s hf
        refine gm_iast C (Nat.le_of_ble_eq_true rfl) rfl rfl h34 dX11_takeRead_154 ?_
        obtain ⟨S35, eS35, hf⟩ := gm_lt_s hf
        refine gm_topm eS35 ?_
        refine gm_aload_n C dX11_takeRead_155 rfl 0 rfl ?_
        refine gm_getr (j := 2) (u := 2) C (Nat.le_of_ble_eq_true rfl) rfl kc_11 (k := 6) rfl (by decide) rfl rfl wl_846 dX11_takeRead_156 ?_
        refine gm_bipush (v := 17) C dX11_takeRead_159 (by decide) ?_
        refine gm_iload_n C dX11_takeRead_161 rfl 1 rfl ?_
        refine gm_iadd C dX11_takeRead_162 ?_
        refine gm_aload_n C dX11_takeRead_163 rfl 0 rfl ?_
        refine gm_getr (j := 8) (u := 8) C (Nat.le_of_ble_eq_true rfl) rfl kc_11 (k := 24) rfl (by decide) rfl rfl wl_864 dX11_takeRead_164 ?_
        refine gm_iload_n C dX11_takeRead_167 rfl 1 rfl ?_
        obtain ⟨h36, hf⟩ := gm_ck_s hf
        refine gm_iald C (Nat.le_of_ble_eq_true rfl) rfl rfl h36 dX11_takeRead_168 ?_
        obtain ⟨h37, hf⟩ := gm_ck_s hf
        refine gm_iast C (Nat.le_of_ble_eq_true rfl) rfl rfl h37 dX11_takeRead_169 ?_
        obtain ⟨S38, eS38, hf⟩ := gm_lt_s hf
        refine gm_topm eS38 ?_
        obtain ⟨x39, ex39, hf⟩ := gm_lt_s hf
        refine gm_iinc (v := x39) (lv' := [(1, .int x39), (0, .ref (ad 0))]) (j := 1) C dX11_takeRead_170 rfl (by rw [ex39]; rfl) (by decide) rfl ?_
        refine gm_goto C 132 dX11_takeRead_173 (by decide) ?_
        exact gm_lvp [1, 0] rfl (ih _ _ _ hf K)
  obtain ⟨S31, hx, hf⟩ := gm_bp1_s hf
  refine gm_lvp [1, 0] rfl (L132 fl _ _ _ hx ?_)
  refine gm_iconst (v := 0) C dX11_takeRead_176 (by decide) ?_
  refine gm_istore_n (lv' := [(1, .int 0), (0, .ref (ad 0))]) C dX11_takeRead_177 rfl (by decide) rfl ?_
  have L178 : ∀ (n : Nat) (y40 : Int32) (S41 : gm_M) (S42 : gm_M), Mo_takeRead_L178  n y40 S41 = some (S42) → gm_G p l e { frames := 0, cells := 0, slots := 0, locals := 0 } s m args below meth c (MQ below (gm_Q cf ad gm_sM 17 none S') args s 0 0 (gm_A ad 17)) cf ad gm_sM 17 2 S42 204 [] [] → gm_G p l e { frames := 0, cells := 0, slots := 0, locals := 0 } s m args below meth c (MQ below (gm_Q cf ad gm_sM 17 none S') args s 0 0 (gm_A ad 17)) cf ad gm_sM 17 2 S41 178 [(0, .ref (ad 0)), (1, .int y40)] [] := by
    intro n
    induction n with
    | zero => intro y40 S41 S42 hf K; cases (show (none : Option _) = some _ from hf)
    | succ n ih =>
      intro y40 S41 S42 hf K
      have hf : Mo_takeRead_L178_b  (Mo_takeRead_L178  n) y40 S41 = some (S42) := hf
      unfold Mo_takeRead_L178_b at hf
      refine gm_iload_n C dX11_takeRead_178 rfl 1 rfl ?_
      refine gm_aload_n C dX11_takeRead_179 rfl 0 rfl ?_
      refine gm_geti C (Nat.le_of_ble_eq_true rfl) rfl kc_11 (k := 4) rfl (by decide) rfl wl_844 dX11_takeRead_180 ?_
      refine gm_icmp_ge C 204 dX11_takeRead_183 (by decide) (fun c43 => ?_) (fun c43 => ?_)
      · have hf := gm_it _ c43 hf
        cases hf
        exact gm_lvp [] rfl K
      · have hf := gm_if _ c43 hf
        refine gm_aload_n C dX11_takeRead_186 rfl 0 rfl ?_
        refine gm_getr (j := 1) (u := 1) C (Nat.le_of_ble_eq_true rfl) rfl kc_11 (k := 5) rfl (by decide) rfl rfl wl_845 dX11_takeRead_187 ?_
        refine gm_iload_n C dX11_takeRead_190 rfl 1 rfl ?_
        refine gm_aload_n C dX11_takeRead_191 rfl 0 rfl ?_
        refine gm_getr (j := 9) (u := 9) C (Nat.le_of_ble_eq_true rfl) rfl kc_11 (k := 26) rfl (by decide) rfl rfl wl_866 dX11_takeRead_192 ?_
        refine gm_iload_n C dX11_takeRead_195 rfl 1 rfl ?_
        obtain ⟨h44, hf⟩ := gm_ck_s hf
        refine gm_iald C (Nat.le_of_ble_eq_true rfl) rfl rfl h44 dX11_takeRead_196 ?_
        obtain ⟨h45, hf⟩ := gm_ck_s hf
        refine gm_iast C (Nat.le_of_ble_eq_true rfl) rfl rfl h45 dX11_takeRead_197 ?_
        obtain ⟨S46, eS46, hf⟩ := gm_lt_s hf
        refine gm_topm eS46 ?_
        obtain ⟨x47, ex47, hf⟩ := gm_lt_s hf
        refine gm_iinc (v := x47) (lv' := [(1, .int x47), (0, .ref (ad 0))]) (j := 1) C dX11_takeRead_198 rfl (by rw [ex47]; rfl) (by decide) rfl ?_
        refine gm_goto C 178 dX11_takeRead_201 (by decide) ?_
        exact gm_lvp [1, 0] rfl (ih _ _ _ hf K)
  obtain ⟨S42, hx, hf⟩ := gm_bp1_s hf
  refine gm_lvp [1, 0] rfl (L178 fl _ _ _ hx ?_)
  exact gm_vret C hr dX11_takeRead_204 hf
