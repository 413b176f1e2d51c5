section PR4
variable {C M C' M' : gm_M} {n : Nat} {tx : Nat → Nat} {fl d nr nn np : Nat} {kd g : Nat → Nat} {mt : Bool}
theorem px_into {w i sz f : Nat} {lo hi : Int32} {M1 : gm_M} (hw : (gm_sM w).2.1 = sz) (hi' : i < sz) (hs : sz < 2 ^ 31) (e : Mo_takeNumber fl lo hi M = some (nI f, M1)) : Mo_into fl w (nI i) lo hi M = some (nI f, gm_ui M1 w i (M1.1 0 12)) := by
  unfold Mo_into
  rw [e, px_2, hw, px_ck _ hi' hs, nI_clamp (by omega)]
  rfl
theorem px_zero_L {x : Nat} (hx : x ≤ 20) (C0 : gm_M) : ∀ (m y : Nat) (C : gm_M), y ≤ 5 → 5 - y < m → (∀ j, j < y → C.1 7 (x + j) = 0) → (∀ k, (k < x ∨ x + y ≤ k) → C.1 7 k = C0.1 7 k) → (∀ t, t ≠ 7 → C.1 t = C0.1 t) → C.2 = C0.2 → ∃ C', Tr_addRider_L17 4 (nI x) m (nI y) C = some C' ∧ (∀ j, j < 5 → C'.1 7 (x + j) = 0) ∧ (∀ k, (k < x ∨ x + 5 ≤ k) → C'.1 7 k = C0.1 7 k) ∧ (∀ t, t ≠ 7 → C'.1 t = C0.1 t) ∧ C'.2 = C0.2 := by
  intro m
  induction m with
  | zero => intro y C _ q; omega
  | succ m ih =>
    intro y C hy hm h1 h2 h3 h4
    have e1 : Tr_addRider_L17 4 (nI x) (m + 1) (nI y) C = Tr_addRider_L17_b 4 (nI x) (Tr_addRider_L17 4 (nI x) m) (nI y) C := rfl
    rw [e1]
    unfold Tr_addRider_L17_b
    by_cases c : 5 ≤ y
    · have : y = 5 := by omega
      subst this
      rw [if_pos (show (5 : Int32) ≤ nI 5 by decide)]
      exact ⟨C, rfl, h1, h2, h3, h4⟩
    · rw [if_neg (show ¬ (5 : Int32) ≤ nI y from fun q => c ((nI_leI (a := 5) (by omega) (by omega)).mp q)), nI_add, px_ck _ (by omega) (by decide), nI_clamp (by omega)]
      simp only [px_lt]
      rw [show nI y + 1 = nI (y + 1) from nI_1 y]
      exact ih (y + 1) (gm_ui C 7 (x + y) 0) (by omega) (by omega) (fun j hj => by
        rw [px_ui, if_pos rfl]
        by_cases e : j = y
        · rw [if_pos (by omega)]
        · rw [if_neg (by omega)]; exact h1 j (by omega)) (fun k hk => by rw [px_ui, if_pos rfl, if_neg (by omega)]; exact h2 k (by omega)) (fun t ht => by rw [px_ui0 _ _ _ _ _ ht]; exact h3 t ht) h4
theorem px_bRider {p : Nat} (hf : 1000 ≤ fl) (h : px_ST C M n tx p) (hd0 : M.1 0 14 ≠ nI 0) (h5 : M.1 0 25 ≠ nI 5) : ∃ v C' M', Rd_readRider fl C = some C' ∧ Mo_takeRider fl M = some (v, M') ∧ px_FC C C' ∧ px_FN M M' ∧ px_OUT v C' M' n tx p := by
  obtain ⟨hC, hM, hp, h10, d, nr, nn, np, kd, g, mt, hO⟩ := h
  have hd : 0 < d := by
    rcases Nat.eq_zero_or_pos d with e | e
    · exact absurd (by rw [hO.2.2.2.2.1.1, e]) hd0
    · exact e
  have hnp : np < 5 := by
    have h1 := hO.1.2.2.2.1
    rcases Nat.lt_or_ge np 5 with e | e
    · exact e
    · exact absurd (by rw [hO.2.2.2.2.1.2.2.2.2.2, show np = 5 by omega]) h5
  have fm0 : px_FN M (gm_ui M 0 25 (nI (np + 1))) := px_FN_0 (px_FN_r M) (by omega)
  obtain ⟨f, v, C1, M1, a1, a2, a3, a4, a5, a6, a7⟩ := px_num2 (lo := 0) (hi := 3) (M := gm_ui M 0 25 (nI (np + 1))) hf hC (px_TM_N hM fm0) (by rw [px_ui, if_pos rfl, if_neg (by omega)]; exact hp) (by decide) (by decide)
  have a1 : Rd_readNumber fl 0 3 C = some (nI v, C1) := a1
  have a2 : Mo_takeNumber fl 0 3 (gm_ui M 0 25 (nI (np + 1))) = some (nI f, M1) := a2
  have hin := px_into (w := 9) (i := np) (sz := 5) rfl hnp (by decide) a2
  unfold Rd_readRider Mo_takeRider
  simp only [px_lt]
  rw [hO.2.2.2.2.1.2.2.2.2.2, show nI np + 1 = nI (np + 1) from nI_1 np, a1, hin, px_2, px_2]
  have fm : px_FN M (gm_ui M1 9 np (M1.1 0 12)) := px_FN_u (px_FN_t fm0 (px_FN_m a4)) (by omega)
  rcases a7 with ⟨rfl, q, s, b1, b2, b3, b4, b5, b6, b7, b8, b9⟩ | ⟨f0, f2, q, w, b1, b2, b3⟩
  · rw [b1.2.2.2.1, if_pos (show nI 0 = (0 : Int32) from rfl)]
    obtain ⟨z0, z1, z2, z3, ⟨z4, z5, z6, z7, z8, z9⟩, ⟨z10, z11⟩, z12, z13, z14⟩ := hO
    obtain ⟨y1, y2, y3, y4, y5, y6, y7, y8, y9⟩ := z3
    have c48 : C1.1 4 8 = nI np := by rw [a3.1 4 (by omega)]; exact y6
    obtain ⟨C2, k1, k2, k3, k4, k5⟩ := px_zero_L (x := np * 5) (by omega) C1 fl 0 C1 (by omega) (by omega) (fun j hj => by omega) (fun _ _ => rfl) (fun _ _ => rfl) rfl
    have k1 : Tr_addRider_L17 4 (nI (np * 5)) fl 0 C1 = some C2 := k1
    have ad : Tr_addRider fl 4 (nI v) C1 = some (gm_ui (gm_ui C2 7 (np * 5) (nI v)) 4 8 (nI (np + 1))) := by
      unfold Tr_addRider
      simp only [px_lt]
      rw [c48, if_neg (show ¬ (5 : Int32) ≤ nI np from fun z => by have := (nI_leI (a := 5) (by omega) (by omega)).mp z; omega), show nI np * 5 = nI (np * 5) from pk_mul np 5, k1]
      simp only [px_1]
      rw [px_n0, px_ck _ (by omega) (by decide), nI_clamp (by omega)]
      have e48 : (gm_ui C2 7 (np * 5) (nI v)).1 4 8 = nI np := by rw [px_ui0 _ _ _ _ _ (by omega), k4 4 (by omega)]; exact c48
      rw [e48, show nI np + 1 = nI (np + 1) from nI_1 np]
    rw [ad]
    simp only [px_1]
    have ct : ∀ t, t ≠ 1 → t ≠ 4 → t ≠ 7 → (gm_ui (gm_ui C2 7 (np * 5) (nI v)) 4 8 (nI (np + 1))).1 t = C.1 t := fun t t1 t4 t7 => by rw [px_ui0 _ _ _ _ _ t4, px_ui0 _ _ _ _ _ t7, k4 t t7, a3.1 t t1]
    have c1 : (gm_ui (gm_ui C2 7 (np * 5) (nI v)) 4 8 (nI (np + 1))).1 1 = C1.1 1 := by rw [px_ui0 _ _ _ _ _ (by omega), px_ui0 _ _ _ _ _ (by omega), k4 1 (by omega)]
    have c4 : ∀ k, k ≠ 8 → (gm_ui (gm_ui C2 7 (np * 5) (nI v)) 4 8 (nI (np + 1))).1 4 k = C.1 4 k := fun k hk => by rw [px_ui, if_pos rfl, if_neg hk, px_ui0 _ _ _ _ _ (by omega), k4 4 (by omega), a3.1 4 (by omega)]
    have c7 : ∀ k, (gm_ui (gm_ui C2 7 (np * 5) (nI v)) 4 8 (nI (np + 1))).1 7 k = if k = np * 5 then nI v else C2.1 7 k := fun k => by rw [px_ui0 _ _ _ _ _ (by omega), px_ui, if_pos rfl]
    refine ⟨_, _, _, rfl, rfl, ⟨fun t t1 t2 => ct t t1 (by omega) (by omega), by rw [px_ui2, px_ui2, k5, a3.2]⟩, fm, Or.inl ⟨rfl, q, b2, ⟨px_TX_k hC.1 (ct 2 (by omega) (by omega) (by omega)) (ct 3 (by omega) (by omega) (by omega)), by rw [c1]; exact b1.2.1, b1.2.2.1, by rw [c1]; exact b1.2.2.2.1, by omega⟩, px_TM_N hM fm, by rw [px_ui0 _ _ _ _ _ (by omega)]; exact b3, by rw [px_ui0 _ _ _ _ _ (by omega), b4, px_ui, if_pos rfl, if_neg (by omega)]; exact h10, d, nr, nn, np + 1, va_up kd np v, g, mt, ?_, z1, z2, ?_, ?_, ?_, ?_, ?_, ?_⟩⟩
    · obtain ⟨v1, v2, v3, v4, v5, v6⟩ := z0
      refine ⟨v1, v2, v3, by omega, fun z => by omega, fun j hj => ?_⟩
      by_cases e : j = np
      · rw [e, px_ups]; omega
      · rw [px_upn e]; exact v6 j (by omega)
    · refine ⟨by rw [c4 3 (by omega)]; exact y1, by rw [c4 4 (by omega)]; exact y2, by rw [c4 5 (by omega)]; exact y3, by rw [c4 6 (by omega)]; exact y4, by rw [c4 7 (by omega)]; exact y5, by rw [px_ui, if_pos rfl, if_pos rfl], fun r hr => by rw [ct 5 (by omega) (by omega) (by omega)]; exact y7 r hr, fun r hr => by rw [ct 6 (by omega) (by omega) (by omega)]; exact y8 r hr, fun j hj => ?_⟩
      show _ ∧ _ ∧ _ ∧ _ ∧ _
      have hv0 := z0.2.2.1
      have hv1 := z0.2.1
      rw [c7, c7, c7, c7, c7]
      by_cases e : j = np
      · subst e
        have zz : ∀ i, 21 ≤ i → i < 41 → g i = 0 := fun i i1 i2 => z2 i (by omega) (by omega) (by omega)
        rw [if_pos rfl, if_neg (by omega), if_neg (by omega), if_neg (by omega), if_neg (by omega), k2 1 (by omega), k2 2 (by omega), k2 3 (by omega), k2 4 (by omega), px_ups, zz (21 + j) (by omega) (by omega), zz (26 + j) (by omega) (by omega), zz (31 + j) (by omega) (by omega), zz (36 + j) (by omega) (by omega)]
        exact ⟨rfl, rfl, rfl, rfl, rfl⟩
      · rw [if_neg (by omega), if_neg (by omega), if_neg (by omega), if_neg (by omega), if_neg (by omega), px_upn e, k3 _ (by omega), k3 _ (by omega), k3 _ (by omega), k3 _ (by omega), k3 _ (by omega), a3.1 7 (by omega)]
        exact y9 j (by omega)
    · have mk : ∀ k, 14 ≤ k → k ≠ 25 → (gm_ui M1 9 np (M1.1 0 12)).1 0 k = M.1 0 k := fun k j1 j2 => by rw [px_ui0 _ _ _ _ _ (by omega), a4.2 k (by omega), px_ui, if_pos rfl, if_neg j2]
      exact ⟨by rw [mk 14 (by omega) (by omega)]; exact z4, by rw [mk 15 (by omega) (by omega)]; exact z5, by rw [mk 17 (by omega) (by omega)]; exact z6, by rw [mk 18 (by omega) (by omega)]; exact z7, by rw [mk 22 (by omega) (by omega)]; exact z8, by rw [px_ui0 _ _ _ _ _ (by omega), a4.2 25 (by omega), px_ui, if_pos rfl, if_pos rfl]⟩
    · exact ⟨by rw [c1, a5]; exact z10, by rw [px_ui0 _ _ _ _ _ (by omega), a4.2 16 (by omega), px_ui, if_pos rfl, if_neg (by omega)]; exact z11⟩
    · intro r hr
      rw [px_ui0 _ _ _ _ _ (by omega), px_ui0 _ _ _ _ _ (by omega), px_ui0 _ _ _ _ _ (by omega), a4.1 4 (by omega), a4.1 5 (by omega), a4.1 6 (by omega), px_ui0 _ _ _ _ _ (by omega), px_ui0 _ _ _ _ _ (by omega), px_ui0 _ _ _ _ _ (by omega)]
      exact z12 r hr
    · intro r hr
      rw [px_ui0 _ _ _ _ _ (by omega), px_ui0 _ _ _ _ _ (by omega), a4.1 7 (by omega), a4.1 8 (by omega), px_ui0 _ _ _ _ _ (by omega), px_ui0 _ _ _ _ _ (by omega)]
      exact z13 r hr
    · intro j hj
      rw [px_ui, if_pos rfl]
      by_cases e : j = np
      · rw [if_pos e, e, px_ups]; exact b5
      · rw [if_neg e, px_upn e, a4.1 9 (by omega), px_ui0 _ _ _ _ _ (by omega)]; exact z14 j (by omega)
  · rw [b1.2.2.2.1, if_neg (px_nf f0 (by omega))]
    exact ⟨_, _, _, rfl, rfl, px_FC_1 a3, fm, Or.inr ⟨f, w, q, f0, by omega, rfl, b1, b2, by rw [px_ui0 _ _ _ _ _ (by omega)]; exact b3⟩⟩
theorem px_bRoll {p : Nat} (hf : 1000 ≤ fl) (h : px_ST C M n tx p) (hd0 : M.1 0 14 ≠ nI 0) (h5 : M.1 0 22 ≠ nI 4) : ∃ v C' M', Rd_readRoll fl C = some C' ∧ Mo_takeRoll fl M = some (v, M') ∧ px_FC C C' ∧ px_FN M M' ∧ px_OUT v C' M' n tx p := by
  obtain ⟨hC, hM, hp, h10, d, nr, nn, np, kd, g, mt, hO⟩ := h
  have hd : 0 < d := by
    rcases Nat.eq_zero_or_pos d with e | e
    · exact absurd (by rw [hO.2.2.2.2.1.1, e]) hd0
    · exact e
  have hnn : nn < 4 := by
    have h1 := hO.1.2.2.1
    rcases Nat.lt_or_ge nn 4 with e | e
    · exact e
    · exact absurd (by rw [hO.2.2.2.2.1.2.2.2.2.1, show nn = 4 by omega]) h5
  have hd4 := px_V0_d hO.1
  have hnum := px_num_le hd4
  have hnum0 := px_num_pos hd
  have fm0 : px_FN M (gm_ui M 0 22 (nI (nn + 1))) := px_FN_0 (px_FN_r M) (by omega)
  obtain ⟨f, v, C1, M1, a1, a2, a3, a4, a5, a6, a7⟩ := px_num2 (lo := 0) (hi := px_num d - 1) (M := gm_ui M 0 22 (nI (nn + 1))) hf hC (px_TM_N hM fm0) (by rw [px_ui, if_pos rfl, if_neg (by omega)]; exact hp) (by decide) (by omega)
  have a1 : Rd_readNumber fl 0 (nI (px_num d - 1)) C = some (nI v, C1) := a1
  have a2 : Mo_takeNumber fl 0 (nI (px_num d - 1)) (gm_ui M 0 22 (nI (nn + 1))) = some (nI f, M1) := a2
  have hin := px_into (w := 7) (i := nn) (sz := 4) rfl hnn (by decide) a2
  have m15 : (gm_ui M 0 22 (nI (nn + 1))).1 0 15 = nI (px_num d - 1) := by rw [px_ui, if_pos rfl, if_neg (by omega)]; exact hO.2.2.2.2.1.2.1
  unfold Rd_readRoll Mo_takeRoll
  simp only [px_lt]
  rw [px_numbers fl 4 d C (by omega) hd4 hO.2.2.2.1.1, hO.2.2.2.2.1.2.2.2.2.1, show nI nn + 1 = nI (nn + 1) from nI_1 nn, m15, hin, px_1, px_2, show nI (px_num d) - 1 = nI (px_num d - 1) from pk_sub (b := 1) (by omega), a1, px_2]
  have fm1 : px_FN M (gm_ui M1 7 nn (M1.1 0 12)) := px_FN_u (px_FN_t fm0 (px_FN_m a4)) (by omega)
  rcases a7 with ⟨rfl, q, s, b1, b2, b3, b4, b5, b6, b7, b8, b9⟩ | ⟨f0, f2, q, w, b1, b2, b3⟩
  · obtain ⟨f', v', C2, M2, e1, e2, e3, e4, e5, e6, e7⟩ := px_num2 (lo := 0) (hi := 200) (M := gm_ui M1 7 nn (M1.1 0 12)) hf b1 (px_TM_N hM fm1) (by rw [px_ui0 _ _ _ _ _ (by omega)]; exact b3) (by decide) (by decide)
    have e1 : Rd_readNumber fl 0 200 C1 = some (nI v', C2) := e1
    have e2 : Mo_takeNumber fl 0 200 (gm_ui M1 7 nn (M1.1 0 12)) = some (nI f', M2) := e2
    have hin2 := px_into (w := 8) (i := nn) (sz := 4) rfl hnn (by decide) e2
    rw [if_pos (show nI 0 ≤ (0 : Int32) by decide), hin2, e1, px_2, px_2]
    have fm2 : px_FN M (gm_ui M2 8 nn (M2.1 0 12)) := px_FN_u (px_FN_t fm1 (px_FN_m e4)) (by omega)
    have F2 := px_F1_t a3 e3
    rcases e7 with ⟨rfl, q2, s2, x1, x2, x3, x4, x5, x6, x7, x8, x9⟩ | ⟨f0, f2, q2, w, x1, x2, x3⟩
    · rw [x1.2.2.2.1, if_pos (show nI 0 = (0 : Int32) from rfl)]
      obtain ⟨z0, z1, z2, z3, ⟨z4, z5, z6, z7, z8, z9⟩, ⟨z10, z11⟩, z12, z13, z14⟩ := hO
      obtain ⟨y1, y2, y3, y4, y5, y6, y7, y8, y9⟩ := z3
      have c47 : C2.1 4 7 = nI nn := by rw [F2.1 4 (by omega)]; exact y5
      have ad : Tr_addRoll 4 (nI v) (nI v') C2 = some (gm_ui (gm_ui (gm_ui C2 6 (nn * 2) (nI v)) 6 (nn * 2 + 1) (nI v')) 4 7 (nI (nn + 1))) := by
        have pr : Tr_putRoll 4 (nI nn) (nI v) (nI v') C2 = some (gm_ui (gm_ui C2 6 (nn * 2) (nI v)) 6 (nn * 2 + 1) (nI v')) := by
          unfold Tr_putRoll
          simp (disch := omega) only [px_lit, px_litL, px_lt, px_1, px_2, px_3, px_ck, px_rm, px_le, px_ltI, px_eq, px_ne1, nI_add, pk_mul, pk_sub, pk_div, nI_clamp, px_ui, px_ui2, px_uj1, px_uj, px_uf, px_uf2, if_pos, if_neg, if_true, if_false, ↓reduceIte]
        unfold Tr_addRoll
        simp only [px_lt]
        rw [c47, if_neg (show ¬ (4 : Int32) ≤ nI nn from fun z => by have := (nI_leI (a := 4) (by omega) (by omega)).mp z; omega), pr, px_1]
        have e47 : (gm_ui (gm_ui C2 6 (nn * 2) (nI v)) 6 (nn * 2 + 1) (nI v')).1 4 7 = nI nn := by rw [px_ui0 _ _ _ _ _ (by omega), px_ui0 _ _ _ _ _ (by omega)]; exact c47
        rw [e47, show nI nn + 1 = nI (nn + 1) from nI_1 nn]
      rw [ad, px_1]
      have ct : ∀ t, t ≠ 1 → t ≠ 4 → t ≠ 6 → (gm_ui (gm_ui (gm_ui C2 6 (nn * 2) (nI v)) 6 (nn * 2 + 1) (nI v')) 4 7 (nI (nn + 1))).1 t = C.1 t := fun t t1 t4 t6 => by rw [px_ui0 _ _ _ _ _ t4, px_ui0 _ _ _ _ _ t6, px_ui0 _ _ _ _ _ t6, F2.1 t t1]
      have c1 : (gm_ui (gm_ui (gm_ui C2 6 (nn * 2) (nI v)) 6 (nn * 2 + 1) (nI v')) 4 7 (nI (nn + 1))).1 1 = C2.1 1 := by rw [px_ui0 _ _ _ _ _ (by omega), px_ui0 _ _ _ _ _ (by omega), px_ui0 _ _ _ _ _ (by omega)]
      have c4 : ∀ k, k ≠ 7 → (gm_ui (gm_ui (gm_ui C2 6 (nn * 2) (nI v)) 6 (nn * 2 + 1) (nI v')) 4 7 (nI (nn + 1))).1 4 k = C.1 4 k := fun k hk => by rw [px_ui, if_pos rfl, if_neg hk, px_ui0 _ _ _ _ _ (by omega), px_ui0 _ _ _ _ _ (by omega), F2.1 4 (by omega)]
      have mk : ∀ k, 14 ≤ k → k ≠ 22 → (gm_ui M2 8 nn (M2.1 0 12)).1 0 k = M.1 0 k := fun k j1 j2 => by rw [px_ui0 _ _ _ _ _ (by omega), e4.2 k (by omega), px_ui0 _ _ _ _ _ (by omega), a4.2 k (by omega), px_ui, if_pos rfl, if_neg j2]
      have mt' : ∀ t, t ≠ 0 → t ≠ 7 → t ≠ 8 → (gm_ui M2 8 nn (M2.1 0 12)).1 t = M.1 t := fun t t0 t7 t8 => by rw [px_ui0 _ _ _ _ _ t8, e4.1 t t0, px_ui0 _ _ _ _ _ t7, a4.1 t t0, px_ui0 _ _ _ _ _ t0]
      have hv1 := z0.2.1
      refine ⟨_, _, _, rfl, rfl, ⟨fun t t1 t2 => ct t t1 (by omega) (by omega), by rw [px_ui2, px_ui2, px_ui2, F2.2]⟩, fm2, Or.inl ⟨rfl, q2, by omega, ⟨px_TX_k hC.1 (ct 2 (by omega) (by omega) (by omega)) (ct 3 (by omega) (by omega) (by omega)), by rw [c1]; exact x1.2.1, x1.2.2.1, by rw [c1]; exact x1.2.2.2.1, by omega⟩, px_TM_N hM fm2, by rw [px_ui0 _ _ _ _ _ (by omega)]; exact x3, by rw [px_ui0 _ _ _ _ _ (by omega), x4, px_ui0 _ _ _ _ _ (by omega), b4, px_ui, if_pos rfl, if_neg (by omega)]; exact h10, d, nr, nn + 1, np, kd, va_up (va_up g (13 + nn) v) (17 + nn) v', mt, ?_, ?_, ?_, ?_, ?_, ?_, ?_, ?_, ?_⟩⟩
      · obtain ⟨v1, v2, v3, v4, v5, v6⟩ := z0
        exact ⟨v1, v2, by omega, v4, fun z => by omega, v6⟩
      · obtain ⟨w1, w2, w3, w4, w5, w6⟩ := z1
        refine ⟨by rw [px_upn (by omega), px_upn (by omega)]; exact w1, fun r hr => by rw [px_upn (by omega), px_upn (by omega), px_upn (by omega), px_upn (by omega), px_upn (by omega), px_upn (by omega)]; exact w2 r hr, fun r hr => ?_, fun j j1 j2 => by rw [px_upn (by omega), px_upn (by omega)]; exact w4 j j1 j2, by rw [px_upn (by omega), px_upn (by omega)]; exact w5, fun j hj => by rw [px_upn (by omega), px_upn (by omega), px_upn (by omega), px_upn (by omega)]; exact w6 j hj⟩
        by_cases e : r = nn
        · subst e
          rw [px_upn (show 13 + r ≠ 17 + r by omega), px_ups, px_ups]
          exact ⟨by omega, by omega⟩
        · rw [px_upn (show 13 + r ≠ 17 + nn by omega), px_upn (show 13 + r ≠ 13 + nn by omega), px_upn (show 17 + r ≠ 17 + nn by omega), px_upn (show 17 + r ≠ 13 + nn by omega)]
          exact w3 r (by omega)
      · intro j j1 j2 j3
        rw [px_upn (by omega), px_upn (by omega)]
        exact z2 j j1 j2 (by omega)
      · refine ⟨by rw [c4 3 (by omega)]; exact y1, by rw [c4 4 (by omega), px_upn (by omega), px_upn (by omega)]; exact y2, by rw [c4 5 (by omega), px_upn (by omega), px_upn (by omega)]; exact y3, by rw [c4 6 (by omega)]; exact y4, by rw [px_ui, if_pos rfl, if_pos rfl], by rw [c4 8 (by omega)]; exact y6, fun r hr => ?_, fun r hr => ?_, fun j hj => by rw [ct 7 (by omega) (by omega) (by omega), px_upn (by omega), px_upn (by omega), px_upn (by omega), px_upn (by omega), px_upn (by omega), px_upn (by omega), px_upn (by omega), px_upn (by omega)]; exact y9 j hj⟩
        · rw [ct 5 (by omega) (by omega) (by omega), px_cd_up (by omega) (by omega), px_cd_up (by omega) (by omega)]
          exact y7 r hr
        · rw [px_ui0 _ _ _ _ _ (by omega), px_ui, if_pos rfl, px_ui, if_pos rfl]
          by_cases e : r = nn
          · subst e
            rw [if_neg (show ¬ r * 2 = r * 2 + 1 by omega), px_ui, if_pos rfl, if_pos rfl, if_pos rfl, px_upn (show 13 + r ≠ 17 + r by omega), px_ups, px_ups]
            exact ⟨rfl, rfl⟩
          · rw [if_neg (show ¬ r * 2 = nn * 2 + 1 by omega), px_ui, if_pos rfl, if_neg (show ¬ r * 2 = nn * 2 by omega), if_neg (show ¬ r * 2 + 1 = nn * 2 + 1 by omega), px_ui, if_pos rfl, if_neg (show ¬ r * 2 + 1 = nn * 2 by omega), px_upn (show 13 + r ≠ 17 + nn by omega), px_upn (show 13 + r ≠ 13 + nn by omega), px_upn (show 17 + r ≠ 17 + nn by omega), px_upn (show 17 + r ≠ 13 + nn by omega), F2.1 6 (by omega)]
            exact y8 r (by omega)
      · exact ⟨by rw [mk 14 (by omega) (by omega)]; exact z4, by rw [mk 15 (by omega) (by omega)]; exact z5, by rw [mk 17 (by omega) (by omega), px_upn (by omega), px_upn (by omega)]; exact z6, by rw [mk 18 (by omega) (by omega)]; exact z7, by rw [px_ui0 _ _ _ _ _ (by omega), e4.2 22 (by omega), px_ui0 _ _ _ _ _ (by omega), a4.2 22 (by omega), px_ui, if_pos rfl, if_pos rfl], by rw [mk 25 (by omega) (by omega)]; exact z9⟩
      · exact ⟨by rw [c1, e5, a5]; exact z10, by rw [mk 16 (by omega) (by omega)]; exact z11⟩
      · intro r hr
        rw [mt' 4 (by omega) (by omega) (by omega), mt' 5 (by omega) (by omega) (by omega), mt' 6 (by omega) (by omega) (by omega), px_upn (by omega), px_upn (by omega), px_upn (by omega), px_upn (by omega), px_upn (by omega), px_upn (by omega)]
        exact z12 r hr
      · intro r hr
        have m8 : (gm_ui M2 8 nn (M2.1 0 12)).1 8 r = if r = nn then nI v' else M.1 8 r := by
          rw [px_ui, if_pos rfl, x5, e4.1 8 (by omega), px_ui0 _ _ _ _ _ (by omega), a4.1 8 (by omega), px_ui0 _ _ _ _ _ (by omega)]
        have m7 : (gm_ui M2 8 nn (M2.1 0 12)).1 7 r = if r = nn then nI v else M.1 7 r := by
          rw [px_ui0 _ _ _ _ _ (by omega), e4.1 7 (by omega), px_ui, if_pos rfl, b5, a4.1 7 (by omega), px_ui0 _ _ _ _ _ (by omega)]
        rw [m7, m8]
        by_cases e : r = nn
        · subst e
          rw [if_pos rfl, if_pos rfl, px_upn (show 13 + r ≠ 17 + r by omega), px_ups, px_ups]
          exact ⟨rfl, rfl⟩
        · rw [if_neg e, if_neg e, px_upn (show 13 + r ≠ 17 + nn by omega), px_upn (show 13 + r ≠ 13 + nn by omega), px_upn (show 17 + r ≠ 17 + nn by omega), px_upn (show 17 + r ≠ 13 + nn by omega)]
          exact z13 r (by omega)
      · intro j hj
        rw [mt' 9 (by omega) (by omega) (by omega)]
        exact z14 j hj
    · rw [x1.2.2.2.1, if_neg (px_nf f0 (by omega))]
      exact ⟨_, _, _, rfl, rfl, px_FC_1 F2, fm2, Or.inr ⟨f', w, q2, f0, by omega, rfl, x1, x2, by rw [px_ui0 _ _ _ _ _ (by omega)]; exact x3⟩⟩
  · obtain ⟨v', C2, q2, e1, e3, x1, x2⟩ := px_numf (lo := 0) (hi := 200) hf b1 f0 (by decide) (by decide)
    have e1 : Rd_readNumber fl 0 200 C1 = some (nI v', C2) := e1
    rw [if_neg (px_nfl f0 (by omega)), e1, px_2, x1.2.2.2.1, if_neg (px_nf f0 (by omega))]
    exact ⟨_, _, _, rfl, rfl, px_FC_1 (px_F1_t a3 e3), fm1, Or.inr ⟨f, w, q2, f0, by omega, rfl, x1, by rw [x2]; exact b2, by rw [px_ui0 _ _ _ _ _ (by omega)]; exact b3⟩⟩
end PR4
