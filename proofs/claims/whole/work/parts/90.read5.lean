section PR5
variable {C M C' M' : gm_M} {n : Nat} {tx : Nat → Nat} {fl d nr nn np : Nat} {kd g : Nat → Nat} {mt : Bool}
theorem px_bRule {p : Nat} (hf : 1000 ≤ fl) (h : px_ST C M n tx p) (hd0 : M.1 0 14 ≠ nI 0) (h5 : M.1 0 18 ≠ nI 4) : ∃ v C' M', Rd_readRule fl C = some C' ∧ Mo_takeRule fl M = some (v, M') ∧ px_FC C C' ∧ px_FN M M' ∧ px_OUT v C' M' n tx p := by
  obtain ⟨hC, hM, hp, h10, d, nr, nn, np, kd, g, mt, hO⟩ := h
  have hd : 0 < d := by
    rcases Nat.eq_zero_or_pos d with e | e
    · exact absurd (by rw [hO.2.2.2.2.1.1, e]) hd0
    · exact e
  have hnr : nr < 4 := by
    have h1 := hO.1.2.1
    rcases Nat.lt_or_ge nr 4 with e | e
    · exact e
    · exact absurd (by rw [hO.2.2.2.2.1.2.2.2.1, show nr = 4 by omega]) h5
  have fm0 : px_FN M (gm_ui M 0 18 (nI (nr + 1))) := px_FN_0 (px_FN_r M) (by omega)
  obtain ⟨f, v, C1, M1, a1, a2, a3, a4, a5, a6, a7⟩ := px_num2 (lo := 0) (hi := 4) (M := gm_ui M 0 18 (nI (nr + 1))) hf hC (px_TM_N hM fm0) (by rw [px_ui, if_pos rfl, if_neg (by omega)]; exact hp) (by decide) (by decide)
  have a1 : Rd_readNumber fl 0 4 C = some (nI v, C1) := a1
  have a2 : Mo_takeNumber fl 0 4 (gm_ui M 0 18 (nI (nr + 1))) = some (nI f, M1) := a2
  have hin := px_into (w := 4) (i := nr) (sz := 4) rfl hnr (by decide) a2
  unfold Rd_readRule Mo_takeRule
  simp only [px_lt]
  rw [hO.2.2.2.2.1.2.2.2.1, show nI nr + 1 = nI (nr + 1) from nI_1 nr, a1, hin, px_2, px_2]
  have fm1 : px_FN M (gm_ui M1 4 nr (M1.1 0 12)) := px_FN_u (px_FN_t fm0 (px_FN_m a4)) (by omega)
  rcases a7 with ⟨rfl, q, s, b1, b2, b3, b4, b5, b6, b7, b8, b9⟩ | ⟨f0, f2, q, w, b1, b2, b3⟩
  · obtain ⟨f', v', C2, M2, e1, e2, e3, e4, e5, e6, e7⟩ := px_num2 (lo := 0) (hi := 99) (M := gm_ui M1 4 nr (M1.1 0 12)) hf b1 (px_TM_N hM fm1) (by rw [px_ui0 _ _ _ _ _ (by omega)]; exact b3) (by decide) (by decide)
    have e1 : Rd_readNumber fl 0 99 C1 = some (nI v', C2) := e1
    have e2 : Mo_takeNumber fl 0 99 (gm_ui M1 4 nr (M1.1 0 12)) = some (nI f', M2) := e2
    have hin2 := px_into (w := 5) (i := nr) (sz := 4) rfl hnr (by decide) e2
    rw [if_pos (show nI 0 ≤ (0 : Int32) by decide), hin2, e1, px_2, px_2, px_2]
    have fm2 : px_FN M (gm_ui M2 5 nr (M2.1 0 12)) := px_FN_u (px_FN_t fm1 (px_FN_m e4)) (by omega)
    have F2 := px_F1_t a3 e3
    rcases e7 with ⟨rfl, q2, s2, x1, x2, x3, x4, x5, x6, x7, x8, x9⟩ | ⟨f0, f2, q2, w, x1, x2, x3⟩
    · obtain ⟨f3, v3, C3, M3, i1, i2, i3, i4, i5, i6, i7⟩ := px_num2 (lo := 0) (hi := 99) (M := gm_ui M2 5 nr (M2.1 0 12)) hf x1 (px_TM_N hM fm2) (by rw [px_ui0 _ _ _ _ _ (by omega)]; exact x3) (by decide) (by decide)
      have i1 : Rd_readNumber fl 0 99 C2 = some (nI v3, C3) := i1
      have i2 : Mo_takeNumber fl 0 99 (gm_ui M2 5 nr (M2.1 0 12)) = some (nI f3, M3) := i2
      have hin3 := px_into (w := 6) (i := nr) (sz := 4) rfl hnr (by decide) i2
      have m13 : (gm_ui M2 5 nr (M2.1 0 12)).1 0 13 = nI s2 := by rw [px_ui0 _ _ _ _ _ (by omega)]; exact x9
      rw [if_pos (show nI 0 ≤ (0 : Int32) by decide), hin3, x8, m13, i1, px_2, px_2, px_2]
      have fm3 : px_FN M (gm_ui M3 6 nr (M3.1 0 12)) := px_FN_u (px_FN_t fm2 (px_FN_m i4)) (by omega)
      have F3 := px_F1_t F2 i3
      rcases i7 with ⟨rfl, q3, s3, j1, j2, j3, j4, j5, j6, j7, j8, j9⟩ | ⟨f0, f2, q3, w, j1, j2, j3⟩
      · have m4 : ∀ r, (gm_ui M3 6 nr (M3.1 0 12)).1 4 r = if r = nr then nI v else M.1 4 r := fun r => by
          rw [px_ui0 _ _ _ _ _ (by omega), i4.1 4 (by omega), px_ui0 _ _ _ _ _ (by omega), e4.1 4 (by omega), px_ui, if_pos rfl, b5, a4.1 4 (by omega), px_ui0 _ _ _ _ _ (by omega)]
        have m5 : ∀ r, (gm_ui M3 6 nr (M3.1 0 12)).1 5 r = if r = nr then nI v' else M.1 5 r := fun r => by
          rw [px_ui0 _ _ _ _ _ (by omega), i4.1 5 (by omega), px_ui, if_pos rfl, x5, e4.1 5 (by omega), px_ui0 _ _ _ _ _ (by omega), a4.1 5 (by omega), px_ui0 _ _ _ _ _ (by omega)]
        have m6 : ∀ r, (gm_ui M3 6 nr (M3.1 0 12)).1 6 r = if r = nr then nI v3 else M.1 6 r := fun r => by
          rw [px_ui, if_pos rfl, j5, i4.1 6 (by omega), px_ui0 _ _ _ _ _ (by omega), e4.1 6 (by omega), px_ui0 _ _ _ _ _ (by omega), a4.1 6 (by omega), px_ui0 _ _ _ _ _ (by omega)]
        rw [j1.2.2.2.1, if_pos (show nI 0 = (0 : Int32) from rfl), if_pos (show nI 0 = (0 : Int32) from rfl), px_ck _ hnr (by decide), px_ck _ hnr (by decide), px_ck _ hnr (by decide), nI_clamp (by omega), m4, m5, m6, if_pos rfl, if_pos rfl, if_pos rfl, px_may_n (by omega) (by omega) (by omega), px_are_n (by omega) (by omega) (by omega), px_1, px_1]
        cases htb : px_tb v v' v3
        · rw [if_pos (show nI false.toNat = (0 : Int32) from rfl), if_pos (show nI false.toNat = (0 : Int32) from rfl)]
          obtain ⟨C4, k1, k2, k3, k4, k5, k6⟩ := px_setF (f := 4) (w := s2) j1.2.2.2.1 (by omega) (by omega) (by omega)
          have k1 : Rd_setFault 4 (nI s2) C3 = some C4 := k1
          rw [if_pos rfl] at k3
          rw [k1, px_1, px_1, k3, if_neg (show ¬ nI 4 = (0 : Int32) by decide)]
          unfold Mo_fails
          simp only [px_lt]
          rw [px_2]
          exact ⟨_, _, _, rfl, rfl, px_FC_1 (px_F1_t F3 k2), px_FN_0 fm3 (by omega), Or.inr ⟨4, s2, q3, by omega, by omega, rfl, ⟨px_TX_F j1.1 k2, by rw [k6 2 (by omega) (by omega)]; exact j1.2.1, j1.2.2.1, k3, by omega⟩, k4 rfl, by rw [px_ui, if_pos rfl, if_pos rfl]⟩⟩
        · have ht := px_tb_o htb
          rw [if_neg (show ¬ nI true.toNat = (0 : Int32) by decide), if_neg (show ¬ nI true.toNat = (0 : Int32) by decide), px_1, j1.2.2.2.1, if_pos (show nI 0 = (0 : Int32) from rfl), px_Ruc, px_1]
          obtain ⟨z0, z1, z2, z3, ⟨z4, z5, z6, z7, z8, z9⟩, ⟨z10, z11⟩, z12, z13, z14⟩ := hO
          obtain ⟨y1, y2, y3, y4, y5, y6, y7, y8, y9⟩ := z3
          have c46 : C3.1 4 6 = nI nr := by rw [F3.1 4 (by omega)]; exact y4
          have ad : Tr_addRule 4 (nI (px_code v v' v3)) C3 = some (gm_ui (gm_ui C3 5 nr (nI (px_code v v' v3))) 4 6 (nI (nr + 1))) := by
            unfold Tr_addRule
            simp only [px_lt]
            rw [c46, if_neg (show ¬ (4 : Int32) ≤ nI nr from fun z => by have := (nI_leI (a := 4) (by omega) (by omega)).mp z; omega), px_ck _ hnr (by decide), nI_clamp (by omega)]
            have e46 : (gm_ui C3 5 nr (nI (px_code v v' v3))).1 4 6 = nI nr := by rw [px_ui0 _ _ _ _ _ (by omega)]; exact c46
            rw [e46, show nI nr + 1 = nI (nr + 1) from nI_1 nr]
          rw [ad, px_1]
          have ct : ∀ t, t ≠ 1 → t ≠ 4 → t ≠ 5 → (gm_ui (gm_ui C3 5 nr (nI (px_code v v' v3))) 4 6 (nI (nr + 1))).1 t = C.1 t := fun t t1 t4 t6 => by rw [px_ui0 _ _ _ _ _ t4, px_ui0 _ _ _ _ _ t6, F3.1 t t1]
          have c1 : (gm_ui (gm_ui C3 5 nr (nI (px_code v v' v3))) 4 6 (nI (nr + 1))).1 1 = C3.1 1 := by rw [px_ui0 _ _ _ _ _ (by omega), px_ui0 _ _ _ _ _ (by omega)]
          have c4 : ∀ k, k ≠ 6 → (gm_ui (gm_ui C3 5 nr (nI (px_code v v' v3))) 4 6 (nI (nr + 1))).1 4 k = C.1 4 k := fun k hk => by rw [px_ui, if_pos rfl, if_neg hk, px_ui0 _ _ _ _ _ (by omega), F3.1 4 (by omega)]
          have mk : ∀ k, 14 ≤ k → k ≠ 18 → (gm_ui M3 6 nr (M3.1 0 12)).1 0 k = M.1 0 k := fun k k1 k2 => by rw [px_ui0 _ _ _ _ _ (by omega), i4.2 k (by omega), px_ui0 _ _ _ _ _ (by omega), e4.2 k (by omega), px_ui0 _ _ _ _ _ (by omega), a4.2 k (by omega), px_ui, if_pos rfl, if_neg k2]
          have mt' : ∀ t, t ≠ 0 → t ≠ 4 → t ≠ 5 → t ≠ 6 → (gm_ui M3 6 nr (M3.1 0 12)).1 t = M.1 t := fun t t0 t4 t5 t6 => by rw [px_ui0 _ _ _ _ _ t6, i4.1 t t0, px_ui0 _ _ _ _ _ t5, e4.1 t t0, px_ui0 _ _ _ _ _ t4, a4.1 t t0, px_ui0 _ _ _ _ _ t0]
          have up : ∀ j, (j = 0 ∨ 13 ≤ j) → va_up (va_up (va_up g (1 + nr) v) (5 + nr) v') (9 + nr) v3 j = g j := fun j hj => by rw [px_upn (by omega), px_upn (by omega), px_upn (by omega)]
          refine ⟨_, _, _, rfl, rfl, ⟨fun t t1 t2 => ct t t1 (by omega) (by omega), by rw [px_ui2, px_ui2, F3.2]⟩, fm3, Or.inl ⟨rfl, q3, by omega, ⟨px_TX_k hC.1 (ct 2 (by omega) (by omega) (by omega)) (ct 3 (by omega) (by omega) (by omega)), by rw [c1]; exact j1.2.1, j1.2.2.1, by rw [c1]; exact j1.2.2.2.1, by omega⟩, px_TM_N hM fm3, by rw [px_ui0 _ _ _ _ _ (by omega)]; exact j3, by rw [px_ui0 _ _ _ _ _ (by omega), j4, px_ui0 _ _ _ _ _ (by omega), x4, px_ui0 _ _ _ _ _ (by omega), b4, px_ui, if_pos rfl, if_neg (by omega)]; exact h10, d, nr + 1, nn, np, kd, va_up (va_up (va_up g (1 + nr) v) (5 + nr) v') (9 + nr) v3, mt, ?_, ?_, ?_, ?_, ?_, ?_, ?_, ?_, ?_⟩⟩
          · obtain ⟨v1, v2, v3, v4, v5, v6⟩ := z0
            exact ⟨v1, by omega, v3, v4, fun z => by omega, v6⟩
          · obtain ⟨w1, w2, w3, w4, w5, w6⟩ := z1
            refine ⟨by rw [up 0 (by omega)]; exact w1, fun r hr => ?_, fun r hr => by rw [up _ (by omega), up _ (by omega)]; exact w3 r hr, fun j k1 k2 => by rw [up _ (by omega)]; exact w4 j k1 k2, by rw [up _ (by omega)]; exact w5, fun j hj => by rw [up _ (by omega), up _ (by omega)]; exact w6 j hj⟩
            by_cases e : r = nr
            · subst e
              rw [px_upn (show 1 + r ≠ 9 + r by omega), px_upn (show 1 + r ≠ 5 + r by omega), px_ups, px_upn (show 5 + r ≠ 9 + r by omega), px_ups, px_ups]
              exact ht
            · rw [px_upn (show 1 + r ≠ 9 + nr by omega), px_upn (show 1 + r ≠ 5 + nr by omega), px_upn (show 1 + r ≠ 1 + nr by omega), px_upn (show 5 + r ≠ 9 + nr by omega), px_upn (show 5 + r ≠ 5 + nr by omega), px_upn (show 5 + r ≠ 1 + nr by omega), px_upn (show 9 + r ≠ 9 + nr by omega), px_upn (show 9 + r ≠ 5 + nr by omega), px_upn (show 9 + r ≠ 1 + nr by omega)]
              exact w2 r (by omega)
          · intro j k1 k2 k3
            rw [px_upn (by omega), px_upn (by omega), px_upn (by omega)]
            exact z2 j k1 k2 (by omega)
          · refine ⟨by rw [c4 3 (by omega)]; exact y1, by rw [c4 4 (by omega), up 0 (by omega)]; exact y2, by rw [c4 5 (by omega), up 41 (by omega)]; exact y3, by rw [px_ui, if_pos rfl, if_pos rfl], by rw [c4 7 (by omega)]; exact y5, by rw [c4 8 (by omega)]; exact y6, fun r hr => ?_, fun r hr => by rw [ct 6 (by omega) (by omega) (by omega), up _ (by omega), up _ (by omega)]; exact y8 r hr, fun j hj => by rw [ct 7 (by omega) (by omega) (by omega), up _ (by omega), up _ (by omega), up _ (by omega), up _ (by omega)]; exact y9 j hj⟩
            rw [px_ui0 _ _ _ _ _ (by omega), px_ui, if_pos rfl]
            unfold px_cd
            by_cases e : r = nr
            · subst e
              rw [if_pos rfl, px_upn (show 1 + r ≠ 9 + r by omega), px_upn (show 1 + r ≠ 5 + r by omega), px_ups, px_upn (show 5 + r ≠ 9 + r by omega), px_ups, px_ups]
            · rw [if_neg e, px_upn (show 1 + r ≠ 9 + nr by omega), px_upn (show 1 + r ≠ 5 + nr by omega), px_upn (show 1 + r ≠ 1 + nr by omega), px_upn (show 5 + r ≠ 9 + nr by omega), px_upn (show 5 + r ≠ 5 + nr by omega), px_upn (show 5 + r ≠ 1 + nr by omega), px_upn (show 9 + r ≠ 9 + nr by omega), px_upn (show 9 + r ≠ 5 + nr by omega), px_upn (show 9 + r ≠ 1 + nr by omega), F3.1 5 (by omega)]
              exact y7 r (by omega)
          · exact ⟨by rw [mk 14 (by omega) (by omega)]; exact z4, by rw [mk 15 (by omega) (by omega)]; exact z5, by rw [mk 17 (by omega) (by omega), up 0 (by omega)]; exact z6, by rw [px_ui0 _ _ _ _ _ (by omega), i4.2 18 (by omega), px_ui0 _ _ _ _ _ (by omega), e4.2 18 (by omega), px_ui0 _ _ _ _ _ (by omega), a4.2 18 (by omega), px_ui, if_pos rfl, if_pos rfl], by rw [mk 22 (by omega) (by omega)]; exact z8, by rw [mk 25 (by omega) (by omega)]; exact z9⟩
          · exact ⟨by rw [c1, i5, e5, a5]; exact z10, by rw [mk 16 (by omega) (by omega)]; exact z11⟩
          · intro r hr
            rw [m4, m5, m6]
            by_cases e : r = nr
            · subst e
              rw [if_pos rfl, if_pos rfl, if_pos rfl, px_upn (show 1 + r ≠ 9 + r by omega), px_upn (show 1 + r ≠ 5 + r by omega), px_ups, px_upn (show 5 + r ≠ 9 + r by omega), px_ups, px_ups]
              exact ⟨rfl, rfl, rfl⟩
            · rw [if_neg e, if_neg e, if_neg e, px_upn (show 1 + r ≠ 9 + nr by omega), px_upn (show 1 + r ≠ 5 + nr by omega), px_upn (show 1 + r ≠ 1 + nr by omega), px_upn (show 5 + r ≠ 9 + nr by omega), px_upn (show 5 + r ≠ 5 + nr by omega), px_upn (show 5 + r ≠ 1 + nr by omega), px_upn (show 9 + r ≠ 9 + nr by omega), px_upn (show 9 + r ≠ 5 + nr by omega), px_upn (show 9 + r ≠ 1 + nr by omega)]
              exact z12 r (by omega)
          · intro r hr
            rw [mt' 7 (by omega) (by omega) (by omega) (by omega), mt' 8 (by omega) (by omega) (by omega) (by omega), up _ (by omega), up _ (by omega)]
            exact z13 r hr
          · intro j hj
            rw [mt' 9 (by omega) (by omega) (by omega) (by omega)]
            exact z14 j hj
      · rw [j1.2.2.2.1, if_neg (px_nf f0 (by omega)), px_1, j1.2.2.2.1, if_neg (px_nf f0 (by omega)), if_neg (px_nf f0 (by omega))]
        exact ⟨_, _, _, rfl, rfl, px_FC_1 F3, fm3, Or.inr ⟨f3, w, q3, f0, by omega, rfl, j1, j2, by rw [px_ui0 _ _ _ _ _ (by omega)]; exact j3⟩⟩
    · obtain ⟨v3, C3, q3, i1, i3, j1, j2⟩ := px_numf (lo := 0) (hi := 99) hf x1 f0 (by decide) (by decide)
      have i1 : Rd_readNumber fl 0 99 C2 = some (nI v3, C3) := i1
      rw [if_neg (px_nfl f0 (by omega)), i1, px_2, px_2, j1.2.2.2.1, if_neg (px_nf f0 (by omega)), px_1, j1.2.2.2.1, if_neg (px_nf f0 (by omega)), if_neg (px_nf f0 (by omega))]
      exact ⟨_, _, _, rfl, rfl, px_FC_1 (px_F1_t F2 i3), fm2, Or.inr ⟨f', w, q3, f0, by omega, rfl, j1, by rw [j2]; exact x2, by rw [px_ui0 _ _ _ _ _ (by omega)]; exact x3⟩⟩
  · obtain ⟨v', C2, q2, e1, e3, x1, x2⟩ := px_numf (lo := 0) (hi := 99) hf b1 f0 (by decide) (by decide)
    have e1 : Rd_readNumber fl 0 99 C1 = some (nI v', C2) := e1
    obtain ⟨v3, C3, q3, i1, i3, j1, j2⟩ := px_numf (lo := 0) (hi := 99) hf x1 f0 (by decide) (by decide)
    have i1 : Rd_readNumber fl 0 99 C2 = some (nI v3, C3) := i1
    rw [if_neg (px_nfl f0 (by omega)), px_2, if_neg (px_nfl f0 (by omega)), px_2, if_neg (px_nf f0 (by omega)), e1, px_2, i1, px_2, j1.2.2.2.1, if_neg (px_nf f0 (by omega)), px_1, j1.2.2.2.1, if_neg (px_nf f0 (by omega))]
    exact ⟨_, _, _, rfl, rfl, px_FC_1 (px_F1_t a3 (px_F1_t e3 i3)), fm1, Or.inr ⟨f, w, q3, f0, by omega, rfl, j1, by rw [j2, x2]; exact b2, by rw [px_ui0 _ _ _ _ _ (by omega)]; exact b3⟩⟩
end PR5
