section PO2
variable {C M C2 M2 : gm_M} {d nr nn np : Nat} {kd g g2 : Nat → Nat} {fl : Nat}
theorem px_give {p q : Nat} (h0 : px_V0 d nr nn np kd) (h1 : px_V1 d nr nn g) (h : px_CT C 8 d nr nn np kd g) (hM : px_MT M d nr nn np kd g) (hp : p < np) (hq : q < np) (hpq : p ≠ q) (hl : 0 < g (26 + p)) : ∃ C' M' g', Tr_giveLucky 8 (nI p) (nI q) C = some C' ∧ Mo_more (nI (26 + q)) (gm_ui (gm_ui M 2 (26 + p) (nI (g (26 + p) - 1))) 2 (21 + p) (nI (g (21 + p) - 1))) = some (gm_ui (gm_ui (gm_ui M 2 (26 + p) (nI (g (26 + p) - 1))) 2 (21 + p) (nI (g (21 + p) - 1))) 2 (26 + q) (nI (px_inc (g (26 + q))))) ∧ Mo_more (nI (21 + q)) (gm_ui (gm_ui (gm_ui M 2 (26 + p) (nI (g (26 + p) - 1))) 2 (21 + p) (nI (g (21 + p) - 1))) 2 (26 + q) (nI (px_inc (g (26 + q))))) = some M' ∧ px_CT C' 8 d nr nn np kd g' ∧ px_MT M' d nr nn np kd g' ∧ px_V1 d nr nn g' ∧ (∀ j, (j < 21 ∨ 41 ≤ j) → g' j = g j) ∧ (∀ t, t ≠ 11 → C'.1 t = C.1 t) ∧ C'.2 = C.2 ∧ (∀ t, t ≠ 2 → M'.1 t = M.1 t) := by
  have hnp := h0.2.2.2.1
  have hnn := h0.2.2.1
  have hnr := h0.2.1
  have kl := h1.2.2.2.2.2 p (by omega)
  have b21 := h1.2.2.2.1 (21 + p) (by omega) (by omega)
  have b26 := h1.2.2.2.1 (26 + p) (by omega) (by omega)
  have q21 := h1.2.2.2.1 (21 + q) (by omega) (by omega)
  have q26 := h1.2.2.2.1 (26 + q) (by omega) (by omega)
  have c1 : px_CT (gm_ui C 11 (p * 5 + 1) (nI (g (21 + p) - 1))) 8 d nr nn np kd (va_up g (21 + p) (g (21 + p) - 1)) := ct_cnt (q := 1) h0 h hp (by omega)
  have c2 : px_CT (gm_ui (gm_ui C 11 (p * 5 + 1) (nI (g (21 + p) - 1))) 11 (p * 5 + 2) (nI (g (26 + p) - 1))) 8 d nr nn np kd (va_up (va_up g (21 + p) (g (21 + p) - 1)) (26 + p) (g (26 + p) - 1)) := ct_cnt (q := 2) h0 c1 hp (by omega)
  have hk0 : ∀ i, i < 5 → va_up (va_up g (21 + p) (g (21 + p) - 1)) (26 + p) (g (26 + p) - 1) (26 + i) ≤ va_up (va_up g (21 + p) (g (21 + p) - 1)) (26 + p) (g (26 + p) - 1) (21 + i) := fun i hi => by
    have b0 := h1.2.2.2.2.2 i hi
    by_cases e : i = p
    · subst e
      rw [px_ups, px_upn (by omega), px_ups]
      omega
    · rw [px_upn (by omega), px_upn (by omega), px_upn (by omega), px_upn (by omega)]
      exact b0
  have v2 : px_V1 d nr nn (va_up (va_up g (21 + p) (g (21 + p) - 1)) (26 + p) (g (26 + p) - 1)) := by
    obtain ⟨a1, a2, a3, a4, a5⟩ := h1
    refine ⟨by rw [px_upn (by omega), px_upn (by omega)]; exact a1, fun r hr => by rw [px_upn (by omega), px_upn (by omega), px_upn (by omega), px_upn (by omega), px_upn (by omega), px_upn (by omega)]; exact a2 r hr, fun r hr => by rw [px_upn (by omega), px_upn (by omega), px_upn (by omega), px_upn (by omega)]; exact a3 r hr, fun i x1 x2 => ?_, by rw [px_upn (by omega), px_upn (by omega)]; exact a5.1, hk0⟩
    by_cases e : i = 26 + p
    · rw [e, px_ups]; omega
    · rw [px_upn e]
      by_cases e2 : i = 21 + p
      · rw [e2, px_ups]; omega
      · rw [px_upn e2]; exact a4 i x1 x2
  have t1 := mt_up (j := 26 + p) (a := g (26 + p) - 1) hM (by omega)
  have t2 := mt_up (j := 21 + p) (a := g (21 + p) - 1) t1 (by omega)
  rw [px_upc (show 26 + p ≠ 21 + p by omega)] at t2
  obtain ⟨C', M0, g', k1, -, -, k4, k5, k6, k7, k8, k9, k10, k11⟩ := px_keep (p := q) (z := g 41) true h1.2.2.2.2.1 h0 v2 c2 (by
    rw [show va_up (va_up (va_up g (21 + p) (g (21 + p) - 1)) (26 + p) (g (26 + p) - 1)) 41 (g 41) = va_up (va_up g (21 + p) (g (21 + p) - 1)) (26 + p) (g (26 + p) - 1) from by
      have e41 : g 41 = va_up (va_up g (21 + p) (g (21 + p) - 1)) (26 + p) (g (26 + p) - 1) 41 := by rw [px_upn (by omega), px_upn (by omega)]
      rw [e41]
      exact px_up41 _ 41]
    exact t2) hq
  have m1 := px_more (j := 26 + q) v2 t2 (by omega) (by omega)
  rw [px_upn (show 26 + q ≠ 26 + p by omega), px_upn (show 26 + q ≠ 21 + p by omega)] at m1
  have t3 := mt_up (j := 26 + q) (a := px_inc (g (26 + q))) t2 (by omega)
  have hk3 : ∀ i, i < 5 → True := fun _ _ => trivial
  have e26 : va_up (va_up g (21 + p) (g (21 + p) - 1)) (26 + p) (g (26 + p) - 1) (26 + q) = g (26 + q) := by rw [px_upn (by omega), px_upn (by omega)]
  have e21 : va_up (va_up g (21 + p) (g (21 + p) - 1)) (26 + p) (g (26 + p) - 1) (21 + q) = g (21 + q) := by rw [px_upn (by omega), px_upn (by omega)]
  have m2 : Mo_more (nI (21 + q)) (gm_ui (gm_ui (gm_ui M 2 (26 + p) (nI (g (26 + p) - 1))) 2 (21 + p) (nI (g (21 + p) - 1))) 2 (26 + q) (nI (px_inc (g (26 + q))))) = some (gm_ui (gm_ui (gm_ui (gm_ui M 2 (26 + p) (nI (g (26 + p) - 1))) 2 (21 + p) (nI (g (21 + p) - 1))) 2 (26 + q) (nI (px_inc (g (26 + q))))) 2 (21 + q) (nI (px_inc (g (21 + q))))) := by
    have hc := px_mrow t3 (show 21 + q < 42 by omega)
    rw [px_upn (show 21 + q ≠ 26 + q by omega), e21] at hc
    unfold Mo_more px_inc
    unfold px_inc at hc
    by_cases c : g (21 + q) < 9999
    · rw [if_pos c]
      simp (disch := omega) only [px_lit, px_le, px_lt, px_ck, nI_clamp, nI_add, if_neg, hc]
    · rw [if_neg c]
      simp (disch := omega) only [px_lit, px_le, px_lt, px_ck, nI_clamp, nI_add, if_pos, hc]
      rfl
  have t4 := mt_up (j := 21 + q) (a := px_inc (g (21 + q))) t3 (by omega)
  have o1 : Tr_countOneMore 8 (nI q) 1 (gm_ui (gm_ui C 11 (p * 5 + 1) (nI (g (21 + p) - 1))) 11 (p * 5 + 2) (nI (g (26 + p) - 1))) = some (gm_ui (gm_ui (gm_ui C 11 (p * 5 + 1) (nI (g (21 + p) - 1))) 11 (p * 5 + 2) (nI (g (26 + p) - 1))) 11 (q * 5 + 1) (nI (px_inc (g (21 + q))))) := by
    have o := px_one (q := 1) h0 v2 c2 hq (by omega)
    rw [show 16 + 5 * 1 + q = 21 + q by omega, e21] at o
    exact o
  have c3 : px_CT (gm_ui (gm_ui (gm_ui C 11 (p * 5 + 1) (nI (g (21 + p) - 1))) 11 (p * 5 + 2) (nI (g (26 + p) - 1))) 11 (q * 5 + 1) (nI (px_inc (g (21 + q))))) 8 d nr nn np kd (va_up (va_up (va_up g (21 + p) (g (21 + p) - 1)) (26 + p) (g (26 + p) - 1)) (21 + q) (px_inc (g (21 + q)))) := ct_cnt (q := 1) h0 c2 hq (by omega)
  have k3 : ∀ i, i < 5 → va_up (va_up (va_up g (21 + p) (g (21 + p) - 1)) (26 + p) (g (26 + p) - 1)) (21 + q) (px_inc (g (21 + q))) (26 + i) ≤ va_up (va_up (va_up g (21 + p) (g (21 + p) - 1)) (26 + p) (g (26 + p) - 1)) (21 + q) (px_inc (g (21 + q))) (21 + i) := fun i hi => by
    have b0 := hk0 i hi
    rw [px_upn (show 26 + i ≠ 21 + q by omega)]
    by_cases e : i = q
    · subst e
      rw [px_ups]
      rw [e21] at b0
      exact Nat.le_trans b0 (px_inc_g _)
    · rw [px_upn (show 21 + i ≠ 21 + q by omega)]; exact b0
  have v3 := px_V1_cnt v2 k3 (by omega) (by omega) (px_inc_le q21) hnn hnr
  have o2 : Tr_countOneMore 8 (nI q) 2 (gm_ui (gm_ui (gm_ui C 11 (p * 5 + 1) (nI (g (21 + p) - 1))) 11 (p * 5 + 2) (nI (g (26 + p) - 1))) 11 (q * 5 + 1) (nI (px_inc (g (21 + q))))) = some (gm_ui (gm_ui (gm_ui (gm_ui C 11 (p * 5 + 1) (nI (g (21 + p) - 1))) 11 (p * 5 + 2) (nI (g (26 + p) - 1))) 11 (q * 5 + 1) (nI (px_inc (g (21 + q))))) 11 (q * 5 + 2) (nI (px_inc (g (26 + q))))) := by
    have o := px_one (q := 2) h0 v3 c3 hq (by omega)
    rw [show 16 + 5 * 2 + q = 26 + q by omega, px_upn (show 26 + q ≠ 21 + q by omega), e26] at o
    exact o
  have c4 : px_CT (gm_ui (gm_ui (gm_ui (gm_ui C 11 (p * 5 + 1) (nI (g (21 + p) - 1))) 11 (p * 5 + 2) (nI (g (26 + p) - 1))) 11 (q * 5 + 1) (nI (px_inc (g (21 + q))))) 11 (q * 5 + 2) (nI (px_inc (g (26 + q))))) 8 d nr nn np kd (va_up (va_up (va_up (va_up g (21 + p) (g (21 + p) - 1)) (26 + p) (g (26 + p) - 1)) (21 + q) (px_inc (g (21 + q)))) (26 + q) (px_inc (g (26 + q)))) := ct_cnt (q := 2) h0 c3 hq (by omega)
  have k4' : ∀ i, i < 5 → va_up (va_up (va_up (va_up g (21 + p) (g (21 + p) - 1)) (26 + p) (g (26 + p) - 1)) (21 + q) (px_inc (g (21 + q)))) (26 + q) (px_inc (g (26 + q))) (26 + i) ≤ va_up (va_up (va_up (va_up g (21 + p) (g (21 + p) - 1)) (26 + p) (g (26 + p) - 1)) (21 + q) (px_inc (g (21 + q)))) (26 + q) (px_inc (g (26 + q))) (21 + i) := fun i hi => by
    have b0 := k3 i hi
    rw [px_upn (show 21 + i ≠ 26 + q by omega)]
    by_cases e : i = q
    · subst e
      rw [px_ups, px_ups]
      exact px_inc_m (h1.2.2.2.2.2 i hi) q21
    · rw [px_upn (show 26 + i ≠ 26 + q by omega)]; exact b0
  have v4 := px_V1_cnt v3 k4' (by omega) (by omega) (px_inc_le q26) hnn hnr
  rw [px_upc (show 26 + q ≠ 21 + q by omega)] at t4
  refine ⟨_, _, _, ?_, m1, m2, c4, t4, v4, fun j hj => by rw [px_upn (by omega), px_upn (by omega), px_upn (by omega), px_upn (by omega)], fun t ht => by rw [px_ui0 _ _ _ _ _ ht, px_ui0 _ _ _ _ _ ht, px_ui0 _ _ _ _ _ ht, px_ui0 _ _ _ _ _ ht], rfl, fun t ht => by rw [px_ui0 _ _ _ _ _ ht, px_ui0 _ _ _ _ _ ht, px_ui0 _ _ _ _ _ ht, px_ui0 _ _ _ _ _ ht]⟩
  obtain ⟨-, x1, x2, -, -⟩ := h.2.2.2.2.2.2.2.2 p hp
  have x1 : C.1 11 (p * 5 + 1) = nI (g (21 + p)) := x1
  have x2 : C.1 11 (p * 5 + 2) = nI (g (26 + p)) := x2
  unfold Tr_giveLucky
  have y1 : nI p * 5 + 1 = nI (p * 5 + 1) := by rw [show (5 : Int32) = nI 5 from rfl, show (1 : Int32) = nI 1 from rfl, pk_mul, nI_add]
  have y2 : nI p * 5 + 2 = nI (p * 5 + 2) := by rw [show (5 : Int32) = nI 5 from rfl, show (2 : Int32) = nI 2 from rfl, pk_mul, nI_add]
  rw [y1, y2]
  simp only [px_lt, Nat.reduceAdd]
  rw [px_ck _ (by omega) (by decide), px_ck _ (by omega) (by decide), nI_clamp (by omega), x1, show nI (g (21 + p)) - 1 = nI (g (21 + p) - 1) from pk_sub (b := 1) (by omega), px_ck _ (by omega) (by decide), px_ck _ (by omega) (by decide), nI_clamp (by omega)]
  have x3 : (gm_ui C 11 (p * 5 + 1) (nI (g (21 + p) - 1))).1 11 (p * 5 + 2) = nI (g (26 + p)) := by rw [px_ui, if_pos rfl, if_neg (by omega)]; exact x2
  rw [x3, show nI (g (26 + p)) - 1 = nI (g (26 + p) - 1) from pk_sub (b := 1) (by omega)]
  unfold Tr_keepTicket
  rw [o1]
  simp only [px_1]
  rw [if_neg (show ¬ (1 : Int32) = 0 by decide), o2]
  rfl
theorem px_R_row (R : px_R1 C M d nr nn np kd g) (hV : px_V1 d nr nn g2) (hC : px_CT C2 8 d nr nn np kd g2) (hM : px_MT M2 d nr nn np kd g2) (hg : ∀ j, j < 13 → g2 j = g j) (fc : ∀ t, t ≠ 8 → t ≠ 10 → t ≠ 11 → C2.1 t = C.1 t) (fc2 : C2.2 = C.2) (fm : ∀ t, t ≠ 2 → M2.1 t = M.1 t) : px_R1 C2 M2 d nr nn np kd g2 := by
  obtain ⟨r0, r1, r2, r3, r4, r5, r6, r7, r8, r9, r10, r11⟩ := id R
  exact px_R_tram R (px_Un_k r8 (fun t _ _ => fc t (by omega) (by omega) (by omega)) (by rw [fm 0 (by omega)]) (fm 10 (by omega))) hV hC hM (px_TB_g hg r0.2.1 (px_TB_k r4 (fc 12 (by omega) (by omega) (by omega)) (fc 18 (by omega) (by omega) (by omega)) (fun t _ _ => by rw [fc2]) r0.2.1)) (px_Sd_k r7 (by rw [fc2]) (by rw [fm 0 (by omega)])) (by rw [fc 0 (by omega) (by omega) (by omega)]) (fc 2 (by omega) (by omega) (by omega)) (fc 3 (by omega) (by omega) (by omega)) (fun t _ _ => fc t (by omega) (by omega) (by omega)) (fun t _ _ => by rw [fc2]) (by rw [fm 0 (by omega)]) (by rw [fm 0 (by omega)]) (by rw [fm 0 (by omega)]) (by rw [fm 0 (by omega)]) (fun t ht => fm t (by omega))
theorem op_give (a0 a1 : Int32) (hf : 20000 ≤ fl) (R : px_R C M) : ∃ x C' M', Lt_give a0 a1 C = some (x, C') ∧ Mo_give fl a0 a1 M = some (x, M') ∧ px_R C' M' := by
  obtain ⟨d, nr, nn, np, kd, g, R⟩ := id R
  obtain ⟨r0, r1, r2, r3, r4, r5, r6, r7, r8, r9, r10, r11⟩ := id R
  have hnp := r0.2.2.2.1
  unfold Lt_give Mo_give
  rcases px_hasRider a0 r2 r3 r0 with ⟨e1, e2⟩ | ⟨p, hp, rfl, e1, e2⟩
  · rw [e1, e2]
    simp only [px_1, px_e0, if_true]
    exact ⟨_, _, _, rfl, rfl, _, _, _, _, _, _, R⟩
  · rw [e1, e2]
    simp only [px_1, px_e1, if_false]
    rcases px_hasRider a1 r2 r3 r0 with ⟨e3, e4⟩ | ⟨q, hq, rfl, e3, e4⟩
    · rw [e3, e4]
      simp only [px_1, px_e0, if_true]
      exact ⟨_, _, _, rfl, rfl, _, _, _, _, _, _, R⟩
    · rw [e3, e4]
      simp only [px_1, px_e1, if_false]
      by_cases cpq : nI p = nI q
      · rw [if_pos cpq, if_pos cpq]
        exact ⟨_, _, _, rfl, rfl, _, _, _, _, _, _, R⟩
      · have hpq : p ≠ q := fun z => cpq (by rw [z])
        have b26 := r1.2.2.2.1 (26 + p) (by omega) (by omega)
        have kl := r1.2.2.2.2.2 p (by omega)
        rw [if_neg cpq, if_neg cpq, (px_rider r2 r0 hp).2.2.1, show (26 : Int32) + nI p = nI (26 + p) from nI_add 26 p, px_ck _ (by omega) (by decide), nI_clamp (by omega), px_mrow r3 (by omega)]
        simp only [px_1]
        by_cases c : g (26 + p) = 0
        · rw [if_pos (by rw [c]; rfl), if_pos (by rw [c]; rfl)]
          exact ⟨_, _, _, rfl, rfl, _, _, _, _, _, _, R⟩
        · have c' : ¬ nI (g (26 + p)) = (0 : Int32) := fun z => c ((nI_eq (b := 0) (by omega) (by omega)).mp z)
          rw [if_neg c', if_neg c']
          obtain ⟨C1, M1, b1, b2, R1⟩ := px_R_rem (fl := fl) hf R
          obtain ⟨C2, M2, g2, s1, s2, s3, s4, s5, s6, s7, s8, s9, s10⟩ := px_give (p := p) (q := q) r0 r1 R1.2.2.1 R1.2.2.2.1 hp hq hpq (by omega)
          have R2 := px_R_row R1 s6 s4 s5 (fun j hj => s7 j (by omega)) (fun t _ _ h => s8 t h) s9 s10
          rw [b1, b2]
          simp only [px_1]
          rw [s1, px_ck _ (by omega) (by decide), px_ck _ (by omega) (by decide), px_mrow R1.2.2.2.1 (show 26 + p < 42 by omega)]
          simp only [px_1, px_lt]
          rw [show nI (g (26 + p)) - 1 = nI (g (26 + p) - 1) from pk_sub (b := 1) (by omega), show (21 : Int32) + nI p = nI (21 + p) from nI_add 21 p, px_ck _ (by omega) (by decide), px_ck _ (by omega) (by decide), nI_clamp (by omega)]
          have x21 : (gm_ui M1 2 (26 + p) (nI (g (26 + p) - 1))).1 2 (21 + p) = nI (g (21 + p)) := by rw [px_ui, if_pos rfl, if_neg (by omega)]; exact px_mrow R1.2.2.2.1 (by omega)
          rw [x21, show nI (g (21 + p)) - 1 = nI (g (21 + p) - 1) from pk_sub (b := 1) (by omega), show (26 : Int32) + nI q = nI (26 + q) from nI_add 26 q, s2]
          simp only [px_1]
          rw [show (21 : Int32) + nI q = nI (21 + q) from nI_add 21 q, s3]
          simp only [px_1]
          rw [(px_rider s4 r0 hq).2.2.1, px_ck _ (by omega) (by decide), nI_clamp (by omega), px_mrow s5 (by omega)]
          exact ⟨_, _, _, rfl, rfl, _, _, _, _, _, _, R2⟩
theorem op_roll (a0 a1 a2 : Int32) (hf : 20000 ≤ fl) (R : px_R C M) : ∃ x C' M', Lt_roll fl a0 a1 a2 C = some (x, C') ∧ Mo_roll fl a0 a1 a2 M = some (x, M') ∧ px_R C' M' := by
  obtain ⟨d, nr, nn, np, kd, g, R⟩ := id R
  obtain ⟨r0, r1, r2, r3, r4, r5, r6, r7, r8, r9, r10, r11⟩ := id R
  have hnn := r0.2.2.1
  have hnr := r0.2.1
  have hn := px_num_le (px_V0_d r0)
  unfold Lt_roll Mo_roll
  rcases px_hasRoll a0 r2 r3 r0 with ⟨e1, e2⟩ | ⟨r, hr, rfl, e1, e2⟩
  · rw [e1, e2]
    simp only [px_1, px_e0, if_true]
    exact ⟨_, _, _, rfl, rfl, _, _, _, _, _, _, R⟩
  · rw [e1, e2]
    simp only [px_1, px_e1, if_false]
    rcases px_hasNum fl a1 (by omega) r2 r3 r0 with ⟨e3, e4⟩ | ⟨n, hx, rfl, e3, e4⟩
    · rw [e3, e4]
      simp only [px_1, px_e0, if_true]
      exact ⟨_, _, _, rfl, rfl, _, _, _, _, _, _, R⟩
    · rw [e3, e4]
      simp only [px_1, px_e1, if_false]
      have i1 := px_in (Y := 0) (Z := 200) a2 0 200 rfl rfl
      rw [i1, show (0 : Int32).toInt = 0 from rfl, show (200 : Int32).toInt = 200 from rfl]
      simp only [px_1]
      by_cases b1 : a2 < 0
      · have := px_toI b1
        rw [if_pos b1, decide_eq_false (by omega)]
        exact ⟨_, _, _, rfl, rfl, _, _, _, _, _, _, R⟩
      · obtain ⟨c, hc, rfl⟩ := nI_of b1
        rw [if_neg b1, nI_toInt hc]
        by_cases b3 : c ≤ 200
        · rw [if_pos (show nI c ≤ (200 : Int32) from (nI_leI (b := 200) hc (by omega)).mpr b3), decide_eq_true (by omega)]
          simp only [Bool.toNat_true, px_e1, if_false]
          obtain ⟨C1, M1, q1, q2, R1⟩ := px_R_rem (fl := fl) hf R
          rw [q1, q2]
          simp only [px_1]
          rw [(px_left R1.2.2.1 r0 hr).1, show (17 : Int32) + nI r = nI (17 + r) from nI_add 17 r, show (13 : Int32) + nI r = nI (13 + r) from nI_add 13 r]
          simp only [px_1, px_lt]
          rw [px_ck _ (by omega) (by decide), nI_clamp (by omega), px_mrow R1.2.2.2.1 (by omega)]
          rw [px_ck _ (by omega) (by decide), nI_clamp (by omega), px_ck _ (by omega) (by decide)]
          have pr : Tr_putRoll 8 (nI r) (nI n) (nI c) C1 = some (gm_ui (gm_ui C1 10 (r * 2) (nI n)) 10 (r * 2 + 1) (nI c)) := by
            unfold Tr_putRoll
            simp (disch := omega) only [px_lit, px_litL, px_lt, px_1, px_2, px_3, px_ck, px_rm, px_le, px_ltI, px_eq, px_ne1, nI_add, pk_mul, pk_sub, pk_div, nI_clamp, px_ui, px_ui2, px_uj1, px_uj, px_uf, px_uf2, if_pos, if_neg, if_true, if_false, ↓reduceIte]
          rw [pr]
          have c2 := ct_left (r := r) (a := c) r0 (ct_at (a := n) r0 R1.2.2.1 hr) hr
          have t2 := mt_up (j := 17 + r) (a := c) (mt_up (j := 13 + r) (a := n) R1.2.2.2.1 (by omega)) (by omega)
          have v2 := px_V1_left (r := r) (a := c) (px_V1_at (r := r) (a := n) r1 (by omega) hx hnr hnn) (by omega) b3 hnr hnn
          exact ⟨_, _, _, rfl, rfl, _, _, _, _, _, _, px_R_row R1 v2 c2 t2 (fun j hj => by rw [px_upn (by omega), px_upn (by omega)]) (fun t _ h _ => by rw [px_ui0 _ _ _ _ _ h, px_ui0 _ _ _ _ _ h]) rfl (fun t h => by rw [px_ui0 _ _ _ _ _ h, px_ui0 _ _ _ _ _ h])⟩
        · rw [if_neg (show ¬ nI c ≤ (200 : Int32) from fun q => b3 ((nI_leI (b := 200) hc (by omega)).mp q)), decide_eq_false (by omega)]
          exact ⟨_, _, _, rfl, rfl, _, _, _, _, _, _, R⟩
theorem op_fault (R : px_R C M) : ∃ x, Lt_fault C = some x ∧ Mo_fault M = some x := by
  obtain ⟨d, nr, nn, np, kd, g, R⟩ := R
  refine ⟨C.1 0 8, rfl, ?_⟩
  unfold Mo_fault
  rw [show C.1 0 8 = M.1 0 10 from R.2.2.2.2.2.2.1]
theorem op_seed (a0 : Int32) (R : px_R C M) : ∃ x C' M', Lt_seed a0 C = some (x, C') ∧ Mo_seed a0 M = some (x, M') ∧ px_R C' M' := by
  obtain ⟨d, nr, nn, np, kd, g, R⟩ := id R
  obtain ⟨r0, r1, r2, r3, r4, r5, r6, ⟨sd, s1, s2, s3⟩, r8, r9, r10, r11⟩ := id R
  unfold Lt_seed Mo_seed
  by_cases c : a0 < 0
  · rw [if_neg (Int32.not_le.mpr c), if_neg (Int32.not_le.mpr c)]
    exact ⟨_, _, _, rfl, rfl, _, _, _, _, _, _, R⟩
  · obtain ⟨v, hv, rfl⟩ := nI_of c
    rw [if_pos (nI_pos' hv), if_pos (nI_pos' hv), s2, s3]
    simp only [px_lt]
    rw [lN_i, nI_l hv]
    refine ⟨_, _, _, rfl, rfl, d, nr, nn, np, kd, g, r0, r1, px_CT_k r2 rfl rfl rfl rfl, px_MT_k r3 (fun k hk => ?_) (px_ui0 _ _ _ _ _ (by omega)) (px_ui0 _ _ _ _ _ (by omega)), px_TB_k r4 rfl rfl (fun t _ _ => px_uj0 _ _ _ _ _ (by omega)) r0.2.1, px_Tx_k r5 rfl rfl ?_ (px_ui0 _ _ _ _ _ (by omega)), px_Fl_k r6 rfl ?_, ⟨v, hv, ?_, ?_⟩, px_Un_k r8 (fun _ _ _ => rfl) ?_ (px_ui0 _ _ _ _ _ (by omega)), px_Im_k r9 (fun _ _ _ => rfl) (fun t _ _ => px_uj0 _ _ _ _ _ (by omega)) (px_ui0 _ _ _ _ _ (by omega)) (px_ui0 _ _ _ _ _ (by omega)), px_Gu_k r10 rfl rfl ?_ (px_ui0 _ _ _ _ _ (by omega)) (px_ui0 _ _ _ _ _ (by omega)), px_Bo_k r11 rfl rfl rfl ?_ (px_ui0 _ _ _ _ _ (by omega)) (px_ui0 _ _ _ _ _ (by omega))⟩
    · rw [px_ui, if_pos rfl, if_neg (by omega)]
    · rw [px_ui, if_pos rfl, if_neg (by omega)]
    · rw [px_ui, if_pos rfl, if_neg (by omega)]
    · rw [px_uj, if_pos rfl, if_pos rfl]
    · rw [px_ui, if_pos rfl, if_pos rfl]
    · rw [px_ui, if_pos rfl, if_neg (by omega)]
    · rw [px_ui, if_pos rfl, if_neg (by omega)]
    · rw [px_ui, if_pos rfl, if_neg (by omega)]
end PO2
