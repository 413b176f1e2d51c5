theorem px_x100 : (if nI 100 = 100 then (some 0 : Option Int32) else if nI 100 = 109 then some 1 else if nI 100 = 114 then some 2 else if nI 100 = 110 then some 3 else if nI 100 = 112 then some 4 else some (-1)) = some 0 := rfl
theorem px_x109 : (if nI 109 = 100 then (some 0 : Option Int32) else if nI 109 = 109 then some 1 else if nI 109 = 114 then some 2 else if nI 109 = 110 then some 3 else if nI 109 = 112 then some 4 else some (-1)) = some 1 := rfl
theorem px_x114 : (if nI 114 = 100 then (some 0 : Option Int32) else if nI 114 = 109 then some 1 else if nI 114 = 114 then some 2 else if nI 114 = 110 then some 3 else if nI 114 = 112 then some 4 else some (-1)) = some 2 := rfl
theorem px_x110 : (if nI 110 = 100 then (some 0 : Option Int32) else if nI 110 = 109 then some 1 else if nI 110 = 114 then some 2 else if nI 110 = 110 then some 3 else if nI 110 = 112 then some 4 else some (-1)) = some 3 := rfl
theorem px_x112 : (if nI 112 = 100 then (some 0 : Option Int32) else if nI 112 = 109 then some 1 else if nI 112 = 114 then some 2 else if nI 112 = 110 then some 3 else if nI 112 = 112 then some 4 else some (-1)) = some 4 := rfl
section PR6
variable {C M C' M' : gm_M} {n : Nat} {tx : Nat → Nat} {fl d nr nn np : Nat} {kd g : Nat → Nat} {mt : Bool}
theorem px_endf {p fc : Nat} (hf : 1000 ≤ fl) (h : px_CP C n tx p fc) (h0 : fc ≠ 0) : ∃ C' q, Rd_readEnd fl C = some C' ∧ px_F1 C C' ∧ px_CP C' n tx q fc ∧ C'.1 1 5 = C.1 1 5 := by
  obtain ⟨h1, h2, h3, h4, h5⟩ := h
  obtain ⟨C1, a1, a2, a3, a4⟩ := px_csk hf h1 h2 h3
  have hb := px_sk_b tx (n - p) p
  have t1 := px_TX_F h1 a2
  have h240 := h1.1
  generalize px_sk tx (n - p) p = s at *
  unfold Rd_readEnd
  rw [a1, px_1, a3, px_lett t1 (by omega), px_1]
  simp only [px_lt]
  by_cases c : nI (if s < n then tx s else 0) = (59 : Int32)
  · rw [if_pos c]
    have hs : s < n := by
      rcases Nat.lt_or_ge s n with q | q
      · exact q
      · rw [if_neg (by omega)] at c; exact absurd c (by decide)
    rw [show nI s + 1 = nI (s + 1) from nI_1 s]
    exact ⟨_, s + 1, rfl, px_F1_u a2, ⟨px_TX_F h1 (px_F1_u a2), by rw [px_ui, if_pos rfl, if_pos rfl], by omega, by rw [px_ui, if_pos rfl, if_neg (by omega), a4 4 (by omega)]; exact h4, h5⟩, by rw [px_ui, if_pos rfl, if_neg (by omega), a4 5 (by omega)]⟩
  · rw [if_neg c]
    obtain ⟨C4, k1, k2, k3, k4, k5, k6⟩ := px_setF (C := C1) (fc := fc) (f := 1) (w := s) (by rw [a4 4 (by omega)]; exact h4) h5 (by omega) (by omega)
    have k1 : Rd_setFault 1 (nI s) C1 = some C4 := k1
    rw [if_neg h0] at k3
    rw [k1, px_1]
    exact ⟨C4, s, rfl, px_F1_t a2 k2, ⟨px_TX_F t1 k2, by rw [k6 2 (by omega) (by omega)]; exact a3, by omega, k3, h5⟩, by rw [k5 h0, a4 5 (by omega)]⟩
theorem px_tail {p : Nat} {v : Int32} (hf : 1000 ≤ fl) (h : px_OUT v C M n tx p) : ∃ v' C' M', Rd_readEnd fl C = some C' ∧ (if v = 0 then (gm_bp2 (Mo_here fl M) fun v15 S16 => if v15 = 59 then (gm_lt (α := gm_M) (gm_ui S16 0 11 ((S16.1 0 11) + 1)) fun S18 => some (v, S18)) else (gm_bp2 (Mo_fails 1 (S16.1 0 11) S16) fun v19 S20 => some (v19, S20))) else (gm_lt (α := gm_M) (gm_ui M 0 11 ((M.1 0 11) + 1)) fun S14 => some (v, S14))) = some (v', M') ∧ px_FC C C' ∧ px_FN M M' ∧ px_OUT v' C' M' n tx p := by
  rcases h with ⟨rfl, q, hq, ⟨h1, h2, h3, h4, h5⟩, hM, hp, h10, d, nr, nn, np, kd, g, mt, hO⟩ | ⟨f, w, q, f0, f4, rfl, hCP, c5, m10⟩
  · obtain ⟨C1, a1, a2, a3, a4⟩ := px_csk hf h1 h2 h3
    obtain ⟨M1, b1, b2, b3, b4⟩ := px_here hf h1.1 (fun i hi => (h1.2.2 i hi).1) hM hp h3
    have hb := px_sk_b tx (n - q) q
    have t1 := px_TX_F h1 a2
    have h240 := h1.1
    have hO1 := px_OD_k hO a2 (a4 6 (by omega)) b2
    generalize px_sk tx (n - q) q = s at *
    unfold Rd_readEnd
    rw [a1, px_1, a3, px_lett t1 (by omega), px_1, if_pos (show nI 0 = (0 : Int32) from rfl), b1, px_2, b3]
    simp only [px_lt]
    rw [show nI s + 1 = nI (s + 1) from nI_1 s]
    by_cases c : s < n ∧ tx s = 59
    · rw [if_pos c.1, if_pos c.1, c.2, if_pos (show nI 59 = (59 : Int32) from rfl), if_pos (show nI 59 = (59 : Int32) from rfl)]
      refine ⟨_, _, _, rfl, rfl, px_FC_1 (px_F1_u a2), px_FN_m (px_FM_u b2 (by omega)), Or.inl ⟨rfl, s + 1, by omega, ⟨px_TX_F h1 (px_F1_u a2), by rw [px_ui, if_pos rfl, if_pos rfl], by omega, by rw [px_ui, if_pos rfl, if_neg (by omega), a4 4 (by omega)]; exact h4, by omega⟩, px_TM_F hM (px_FM_u b2 (by omega)), by rw [px_ui, if_pos rfl, if_pos rfl], by rw [px_ui, if_pos rfl, if_neg (by omega), b4 10 (by omega)]; exact h10, d, nr, nn, np, kd, g, mt, px_OD_k hO1 (px_F1_u (px_F1_r C1)) (by rw [px_ui, if_pos rfl, if_neg (by omega)]) (px_FM_u (px_FM_r M1) (by omega))⟩⟩
    · have n1 : ¬ nI (if s < n then tx s else 0) = (59 : Int32) := fun z => by
        by_cases hs : s < n
        · have h256 := (h1.2.2 s hs).1
          rw [if_pos hs] at z
          exact c ⟨hs, (nI_eq (b := 59) (by omega) (by omega)).mp z⟩
        · rw [if_neg hs] at z; exact absurd z (by decide)
      have n2 : ¬ (if s < n then nI (tx s) else (-1 : Int32)) = 59 := fun z => by
        by_cases hs : s < n
        · have h256 := (h1.2.2 s hs).1
          rw [if_pos hs] at z
          exact c ⟨hs, (nI_eq (b := 59) (by omega) (by omega)).mp z⟩
        · rw [if_neg hs] at z; exact absurd z (by decide)
      rw [if_neg n1, if_neg n2]
      obtain ⟨C4, k1, k2, k3, k4, k5, k6⟩ := px_setF (C := C1) (fc := 0) (f := 1) (w := s) (by rw [a4 4 (by omega)]; exact h4) h5 (by omega) (by omega)
      have k1 : Rd_setFault 1 (nI s) C1 = some C4 := k1
      rw [if_pos rfl] at k3
      rw [k1, px_1]
      unfold Mo_fails
      simp only [px_lt]
      rw [px_2]
      exact ⟨_, _, _, rfl, rfl, px_FC_1 (px_F1_t a2 k2), px_FN_m (px_FM_u b2 (by omega)), Or.inr ⟨1, s, s, by omega, by omega, rfl, ⟨px_TX_F t1 k2, by rw [k6 2 (by omega) (by omega)]; exact a3, by omega, k3, by omega⟩, k4 rfl, by rw [px_ui, if_pos rfl, if_pos rfl]⟩⟩
  · obtain ⟨C1, q1, a1, a2, a3, a4⟩ := px_endf hf hCP f0
    rw [if_neg (px_nf f0 f4)]
    simp only [px_lt]
    exact ⟨_, _, _, a1, rfl, px_FC_1 a2, px_FN_0 (px_FN_r M) (by omega), Or.inr ⟨f, w, q1, f0, f4, rfl, a3, by rw [a4]; exact c5, by rw [px_ui, if_pos rfl, if_neg (by omega)]; exact m10⟩⟩
theorem px_clause {s : Nat} (hf : 1000 ≤ fl) (h : px_ST C M n tx s) (hs : s < n) (hsk : px_sk tx (n - s) s = s) : ∃ v C' M', Rd_readClause fl C = some C' ∧ Mo_takeClause fl M = some (v, M') ∧ px_FC C C' ∧ px_FN M M' ∧ px_OUT v C' M' n tx (s + 1) := by
  obtain ⟨⟨h1, h2, h3, h4, h5⟩, hM, hp, h10, d, nr, nn, np, kd, g, mt, hO⟩ := h
  obtain ⟨M1, b1, b2, b3, b4⟩ := px_here hf h1.1 (fun i hi => (h1.2.2 i hi).1) hM hp h3
  rw [hsk, if_pos hs] at b1
  rw [hsk] at b3
  have h240 := h1.1
  have h256 := (h1.2.2 s hs).1
  have hO1 := px_OD_k hO (px_F1_r C) rfl b2
  obtain ⟨z0, z1, z2, z3, ⟨z4, z5, z6, z7, z8, z9⟩, ⟨z10, z11⟩, z12, z13, z14⟩ := id hO1
  have hd4 := px_V0_d z0
  have hnr4 := z0.2.1
  have hnn4 := z0.2.2.1
  have hnp5 := z0.2.2.2.1
  have S1 : px_ST (gm_ui C 1 2 (nI (s + 1))) (gm_ui M1 0 11 (nI (s + 1))) n tx (s + 1) := ⟨⟨px_TX_F h1 (px_F1_u (px_F1_r C)), by rw [px_ui, if_pos rfl, if_pos rfl], by omega, by rw [px_ui, if_pos rfl, if_neg (by omega)]; exact h4, by omega⟩, px_TM_F hM (px_FM_u b2 (by omega)), by rw [px_ui, if_pos rfl, if_pos rfl], by rw [px_ui, if_pos rfl, if_neg (by omega), b4 10 (by omega)]; exact h10, d, nr, nn, np, kd, g, mt, px_OD_k hO1 (px_F1_u (px_F1_r C)) (by rw [px_ui, if_pos rfl, if_neg (by omega)]) (px_FM_u (px_FM_r M1) (by omega))⟩
  have fc0 : px_FC C (gm_ui C 1 2 (nI (s + 1))) := px_FC_u (px_FC_r C) (by omega)
  have fm0 : px_FN M (gm_ui M1 0 11 (nI (s + 1))) := px_FN_0 (px_FN_m b2) (by omega)
  have flt : ∀ f, f ≠ 0 → f ≤ 4 → ∃ C', Rd_setFault (nI f) (nI s) C = some C' ∧ px_FC C C' ∧ px_FN M (gm_ui M1 0 10 (nI s)) ∧ px_OUT (nI f) C' (gm_ui M1 0 10 (nI s)) n tx (s + 1) := fun f f0 f4 => by
    obtain ⟨C4, k1, k2, k3, k4, k5, k6⟩ := px_setF (f := f) (w := s) h4 h5 f0 f4
    rw [if_pos rfl] at k3
    exact ⟨C4, k1, px_FC_1 k2, px_FN_m (px_FM_u b2 (by omega)), Or.inr ⟨f, s, s, f0, f4, rfl, ⟨px_TX_F h1 k2, by rw [k6 2 (by omega) (by omega)]; exact h2, by omega, k3, f4⟩, k4 rfl, by rw [px_ui, if_pos rfl, if_pos rfl]⟩⟩
  have fl1 := flt 1 (by omega) (by omega)
  have fl3 := flt 3 (by omega) (by omega)
  rw [show nI 1 = (1 : Int32) from rfl] at fl1
  rw [show nI 3 = (3 : Int32) from rfl] at fl3
  have m11 : nI s + 1 = nI (s + 1) := nI_1 s
  have c43 : C.1 4 3 = nI d := z3.1
  unfold Rd_readClause Mo_takeClause
  rw [h2, px_lett h1 (by omega), if_pos hs, px_1, b1, px_2, b3, m11]
  simp only [px_lt]
  by_cases t100 : tx s = 100
  · rw [t100, px_x100, px_1, if_neg (show ¬ (0 : Int32) < 0 by decide), if_pos (show (0 : Int32) ≤ 0 by decide)]
    have ms : Rd_mayStand (nI 100) C = some 1 := by
      unfold Rd_mayStand
      split
      · rfl
      · rfl
    rw [ms, px_1, if_neg (show ¬ (1 : Int32) = 0 by decide)]
    unfold Rd_isOneTooMany Mo_isFull
    rw [if_pos (show nI 100 = (100 : Int32) from rfl), if_pos (show (0 : Int32) = 0 from rfl), c43, z4]
    by_cases d0 : d = 0
    · subst d0
      rw [if_pos (show nI 0 = (0 : Int32) from rfl), if_pos (show nI 0 ≤ (0 : Int32) by decide), px_1, px_1, if_pos (show (0 : Int32) = 0 from rfl), if_pos (show (0 : Int32) = 0 from rfl), if_pos (show nI 100 = (100 : Int32) from rfl)]
      obtain ⟨v, C2, M2, x1, x2, x3, x4, x5⟩ := px_bFig hf S1 (by rw [px_ui, if_pos rfl, if_neg (by omega)]; exact z4)
      obtain ⟨v', C3, M3, y1, y2, y3, y4, y5⟩ := px_tail hf x5
      have tb : Mo_takeBody fl 0 (gm_ui M1 0 11 (nI (s + 1))) = some (v, M2) := by unfold Mo_takeBody; rw [if_pos rfl, x2]; rfl
      rw [x1, tb, px_1, px_2, y1, px_1]
      simp only [px_lt] at y2
      rw [y2]
      exact ⟨_, _, _, rfl, rfl, px_FC_t (px_FC_t fc0 x3) y3, px_FN_t (px_FN_t fm0 x4) y4, y5⟩
    · have d0' : ¬ nI d = (0 : Int32) := fun z => d0 ((nI_eq (b := 0) (by omega) (by omega)).mp z)
      rw [if_neg d0', if_neg (nI_nle (by omega) (by omega)), px_1, px_1, if_neg (show ¬ (1 : Int32) = 0 by decide), if_neg (show ¬ (1 : Int32) = 0 by decide)]
      obtain ⟨C4, k1, k2, k3, k4⟩ := fl3
      rw [k1, px_1]
      unfold Mo_fails
      simp only [px_lt]
      rw [px_2]
      exact ⟨_, _, _, rfl, rfl, k2, k3, k4⟩
  · have t100' : ¬ nI (tx s) = (100 : Int32) := fun z => t100 ((nI_eq (b := 100) (by omega) (by omega)).mp z)
    by_cases t109 : tx s = 109
    · rw [t109, px_x109, px_1, if_neg (show ¬ (1 : Int32) < 0 by decide), if_neg (show ¬ (1 : Int32) ≤ 0 by decide), z4]
      by_cases d0 : d = 0
      · subst d0
        have ms : Rd_mayStand (nI 109) C = some 0 := by unfold Rd_mayStand; rw [c43]; rfl
        rw [ms, px_1, if_pos (show (0 : Int32) = 0 from rfl), if_pos (show nI 0 = (0 : Int32) from rfl)]
        obtain ⟨C4, k1, k2, k3, k4⟩ := fl1
        rw [k1, px_1]
        unfold Mo_fails
        simp only [px_lt]
        rw [px_2]
        exact ⟨_, _, _, rfl, rfl, k2, k3, k4⟩
      · have d0' : ¬ nI d = (0 : Int32) := fun z => d0 ((nI_eq (b := 0) (by omega) (by omega)).mp z)
        have ms : Rd_mayStand (nI 109) C = some 1 := by unfold Rd_mayStand; rw [c43, if_neg d0']; rfl
        have om : Rd_isOneTooMany (nI 109) C = some (nI mt.toNat) := by
          unfold Rd_isOneTooMany
          rw [if_neg (show ¬ nI 109 = (100 : Int32) by decide), if_pos (show nI 109 = (109 : Int32) from rfl), z10]
          simp only [px_lt, px_nb, if_true]
        have fu : Mo_isFull 1 M1 = some (nI mt.toNat) := by
          unfold Mo_isFull
          rw [if_neg (show ¬ (1 : Int32) = 0 by decide), if_pos (show (1 : Int32) = 1 from rfl), z11]
          simp only [px_lt, px_nb, if_true]
        rw [ms, px_1, if_neg (show ¬ (1 : Int32) = 0 by decide), if_neg d0', om, fu, px_1, px_1]
        cases mt
        · rw [if_pos (show nI false.toNat = (0 : Int32) from rfl), if_pos (show nI false.toNat = (0 : Int32) from rfl), if_neg (show ¬ nI 109 = (100 : Int32) by decide), if_pos (show nI 109 = (109 : Int32) from rfl)]
          obtain ⟨v, C2, M2, x1, x2, x3, x4, x5⟩ := px_bMode hf S1
          obtain ⟨v', C3, M3, y1, y2, y3, y4, y5⟩ := px_tail hf x5
          have tb : Mo_takeBody fl 1 (gm_ui M1 0 11 (nI (s + 1))) = some (v, M2) := by unfold Mo_takeBody; rw [if_neg (by decide), if_pos rfl, x2]; rfl
          rw [x1, tb, px_1, px_2, y1, px_1]
          simp only [px_lt] at y2
          rw [y2]
          exact ⟨_, _, _, rfl, rfl, px_FC_t (px_FC_t fc0 x3) y3, px_FN_t (px_FN_t fm0 x4) y4, y5⟩
        · rw [if_neg (show ¬ nI true.toNat = (0 : Int32) by decide), if_neg (show ¬ nI true.toNat = (0 : Int32) by decide)]
          obtain ⟨C4, k1, k2, k3, k4⟩ := fl3
          rw [k1, px_1]
          unfold Mo_fails
          simp only [px_lt]
          rw [px_2]
          exact ⟨_, _, _, rfl, rfl, k2, k3, k4⟩
    · have t109' : ¬ nI (tx s) = (109 : Int32) := fun z => t109 ((nI_eq (b := 109) (by omega) (by omega)).mp z)
      by_cases t114 : tx s = 114
      · rw [t114, px_x114, px_1, if_neg (show ¬ (2 : Int32) < 0 by decide), if_neg (show ¬ (2 : Int32) ≤ 0 by decide), z4]
        by_cases d0 : d = 0
        · subst d0
          have ms : Rd_mayStand (nI 114) C = some 0 := by unfold Rd_mayStand; rw [c43]; rfl
          rw [ms, px_1, if_pos (show (0 : Int32) = 0 from rfl), if_pos (show nI 0 = (0 : Int32) from rfl)]
          obtain ⟨C4, k1, k2, k3, k4⟩ := fl1
          rw [k1, px_1]
          unfold Mo_fails
          simp only [px_lt]
          rw [px_2]
          exact ⟨_, _, _, rfl, rfl, k2, k3, k4⟩
        · have d0' : ¬ nI d = (0 : Int32) := fun z => d0 ((nI_eq (b := 0) (by omega) (by omega)).mp z)
          have ms : Rd_mayStand (nI 114) C = some 1 := by unfold Rd_mayStand; rw [c43, if_neg d0']; rfl
          rw [ms, px_1, if_neg (show ¬ (1 : Int32) = 0 by decide), if_neg d0']
          unfold Rd_isOneTooMany Mo_isFull
          rw [if_neg (show ¬ nI 114 = (100 : Int32) by decide), if_neg (show ¬ nI 114 = (109 : Int32) by decide), if_neg (show ¬ nI 114 = (110 : Int32) by decide), if_pos (show nI 114 = (114 : Int32) from rfl), z3.2.2.2.1, if_neg (show ¬ (2 : Int32) = 0 by decide), if_neg (show ¬ (2 : Int32) = 1 by decide), if_pos (show (2 : Int32) = 2 from rfl), z7]
          by_cases c4 : nr = 4
          · subst c4
            rw [if_pos (show nI 4 = (4 : Int32) from rfl), px_1, px_1, if_neg (show ¬ (1 : Int32) = 0 by decide), if_neg (show ¬ (1 : Int32) = 0 by decide)]
            obtain ⟨C4, k1, k2, k3, k4⟩ := fl3
            rw [k1, px_1]
            unfold Mo_fails
            simp only [px_lt]
            rw [px_2]
            exact ⟨_, _, _, rfl, rfl, k2, k3, k4⟩
          · have c4' : ¬ nI nr = (4 : Int32) := fun z => c4 ((nI_eq (b := 4) (by omega) (by omega)).mp z)
            rw [if_neg c4', px_1, px_1, if_pos (show (0 : Int32) = 0 from rfl), if_pos (show (0 : Int32) = 0 from rfl), if_neg (show ¬ nI 114 = (100 : Int32) by decide), if_neg (show ¬ nI 114 = (109 : Int32) by decide), if_neg (show ¬ nI 114 = (110 : Int32) by decide), if_pos (show nI 114 = (114 : Int32) from rfl)]
            obtain ⟨v, C2, M2, x1, x2, x3, x4, x5⟩ := px_bRule hf S1 (by rw [px_ui, if_pos rfl, if_neg (by omega), z4]; exact d0') (by rw [px_ui, if_pos rfl, if_neg (by omega), z7]; exact c4')
            obtain ⟨v', C3, M3, y1, y2, y3, y4, y5⟩ := px_tail hf x5
            have tb : Mo_takeBody fl 2 (gm_ui M1 0 11 (nI (s + 1))) = some (v, M2) := by unfold Mo_takeBody; rw [if_neg (by decide), if_neg (by decide), if_pos rfl, x2]; rfl
            rw [x1, tb, px_1, px_2, y1, px_1]
            simp only [px_lt] at y2
            rw [y2]
            exact ⟨_, _, _, rfl, rfl, px_FC_t (px_FC_t fc0 x3) y3, px_FN_t (px_FN_t fm0 x4) y4, y5⟩
      · have t114' : ¬ nI (tx s) = (114 : Int32) := fun z => t114 ((nI_eq (b := 114) (by omega) (by omega)).mp z)
        by_cases t110 : tx s = 110
        · rw [t110, px_x110, px_1, if_neg (show ¬ (3 : Int32) < 0 by decide), if_neg (show ¬ (3 : Int32) ≤ 0 by decide), z4]
          by_cases d0 : d = 0
          · subst d0
            have ms : Rd_mayStand (nI 110) C = some 0 := by unfold Rd_mayStand; rw [c43]; rfl
            rw [ms, px_1, if_pos (show (0 : Int32) = 0 from rfl), if_pos (show nI 0 = (0 : Int32) from rfl)]
            obtain ⟨C4, k1, k2, k3, k4⟩ := fl1
            rw [k1, px_1]
            unfold Mo_fails
            simp only [px_lt]
            rw [px_2]
            exact ⟨_, _, _, rfl, rfl, k2, k3, k4⟩
          · have d0' : ¬ nI d = (0 : Int32) := fun z => d0 ((nI_eq (b := 0) (by omega) (by omega)).mp z)
            have ms : Rd_mayStand (nI 110) C = some 1 := by unfold Rd_mayStand; rw [c43, if_neg d0']; rfl
            rw [ms, px_1, if_neg (show ¬ (1 : Int32) = 0 by decide), if_neg d0']
            unfold Rd_isOneTooMany Mo_isFull
            rw [if_neg (show ¬ nI 110 = (100 : Int32) by decide), if_neg (show ¬ nI 110 = (109 : Int32) by decide), if_pos (show nI 110 = (110 : Int32) from rfl), z3.2.2.2.2.1, if_neg (show ¬ (3 : Int32) = 0 by decide), if_neg (show ¬ (3 : Int32) = 1 by decide), if_neg (show ¬ (3 : Int32) = 2 by decide), if_pos (show (3 : Int32) = 3 from rfl), z8]
            by_cases c4 : nn = 4
            · subst c4
              rw [if_pos (show nI 4 = (4 : Int32) from rfl), px_1, px_1, if_neg (show ¬ (1 : Int32) = 0 by decide), if_neg (show ¬ (1 : Int32) = 0 by decide)]
              obtain ⟨C4, k1, k2, k3, k4⟩ := fl3
              rw [k1, px_1]
              unfold Mo_fails
              simp only [px_lt]
              rw [px_2]
              exact ⟨_, _, _, rfl, rfl, k2, k3, k4⟩
            · have c4' : ¬ nI nn = (4 : Int32) := fun z => c4 ((nI_eq (b := 4) (by omega) (by omega)).mp z)
              rw [if_neg c4', px_1, px_1, if_pos (show (0 : Int32) = 0 from rfl), if_pos (show (0 : Int32) = 0 from rfl), if_neg (show ¬ nI 110 = (100 : Int32) by decide), if_neg (show ¬ nI 110 = (109 : Int32) by decide), if_pos (show nI 110 = (110 : Int32) from rfl)]
              obtain ⟨v, C2, M2, x1, x2, x3, x4, x5⟩ := px_bRoll hf S1 (by rw [px_ui, if_pos rfl, if_neg (by omega), z4]; exact d0') (by rw [px_ui, if_pos rfl, if_neg (by omega), z8]; exact c4')
              obtain ⟨v', C3, M3, y1, y2, y3, y4, y5⟩ := px_tail hf x5
              have tb : Mo_takeBody fl 3 (gm_ui M1 0 11 (nI (s + 1))) = some (v, M2) := by unfold Mo_takeBody; rw [if_neg (by decide), if_neg (by decide), if_neg (by decide), if_pos rfl, x2]; rfl
              rw [x1, tb, px_1, px_2, y1, px_1]
              simp only [px_lt] at y2
              rw [y2]
              exact ⟨_, _, _, rfl, rfl, px_FC_t (px_FC_t fc0 x3) y3, px_FN_t (px_FN_t fm0 x4) y4, y5⟩
        · have t110' : ¬ nI (tx s) = (110 : Int32) := fun z => t110 ((nI_eq (b := 110) (by omega) (by omega)).mp z)
          by_cases t112 : tx s = 112
          · rw [t112, px_x112, px_1, if_neg (show ¬ (4 : Int32) < 0 by decide), if_neg (show ¬ (4 : Int32) ≤ 0 by decide), z4]
            by_cases d0 : d = 0
            · subst d0
              have ms : Rd_mayStand (nI 112) C = some 0 := by unfold Rd_mayStand; rw [c43]; rfl
              rw [ms, px_1, if_pos (show (0 : Int32) = 0 from rfl), if_pos (show nI 0 = (0 : Int32) from rfl)]
              obtain ⟨C4, k1, k2, k3, k4⟩ := fl1
              rw [k1, px_1]
              unfold Mo_fails
              simp only [px_lt]
              rw [px_2]
              exact ⟨_, _, _, rfl, rfl, k2, k3, k4⟩
            · have d0' : ¬ nI d = (0 : Int32) := fun z => d0 ((nI_eq (b := 0) (by omega) (by omega)).mp z)
              have ms : Rd_mayStand (nI 112) C = some 1 := by unfold Rd_mayStand; rw [c43, if_neg d0']; rfl
              rw [ms, px_1, if_neg (show ¬ (1 : Int32) = 0 by decide), if_neg d0']
              unfold Rd_isOneTooMany Mo_isFull
              rw [if_neg (show ¬ nI 112 = (100 : Int32) by decide), if_neg (show ¬ nI 112 = (109 : Int32) by decide), if_neg (show ¬ nI 112 = (110 : Int32) by decide), if_neg (show ¬ nI 112 = (114 : Int32) by decide), z3.2.2.2.2.2.1, if_neg (show ¬ (4 : Int32) = 0 by decide), if_neg (show ¬ (4 : Int32) = 1 by decide), if_neg (show ¬ (4 : Int32) = 2 by decide), if_neg (show ¬ (4 : Int32) = 3 by decide), z9]
              by_cases c4 : np = 5
              · subst c4
                rw [if_pos (show nI 5 = (5 : Int32) from rfl), px_1, px_1, if_neg (show ¬ (1 : Int32) = 0 by decide), if_neg (show ¬ (1 : Int32) = 0 by decide)]
                obtain ⟨C4, k1, k2, k3, k4⟩ := fl3
                rw [k1, px_1]
                unfold Mo_fails
                simp only [px_lt]
                rw [px_2]
                exact ⟨_, _, _, rfl, rfl, k2, k3, k4⟩
              · have c4' : ¬ nI np = (5 : Int32) := fun z => c4 ((nI_eq (b := 5) (by omega) (by omega)).mp z)
                rw [if_neg c4', px_1, px_1, if_pos (show (0 : Int32) = 0 from rfl), if_pos (show (0 : Int32) = 0 from rfl), if_neg (show ¬ nI 112 = (100 : Int32) by decide), if_neg (show ¬ nI 112 = (109 : Int32) by decide), if_neg (show ¬ nI 112 = (110 : Int32) by decide), if_neg (show ¬ nI 112 = (114 : Int32) by decide)]
                obtain ⟨v, C2, M2, x1, x2, x3, x4, x5⟩ := px_bRider hf S1 (by rw [px_ui, if_pos rfl, if_neg (by omega), z4]; exact d0') (by rw [px_ui, if_pos rfl, if_neg (by omega), z9]; exact c4')
                obtain ⟨v', C3, M3, y1, y2, y3, y4, y5⟩ := px_tail hf x5
                have tb : Mo_takeBody fl 4 (gm_ui M1 0 11 (nI (s + 1))) = some (v, M2) := by unfold Mo_takeBody; rw [if_neg (by decide), if_neg (by decide), if_neg (by decide), if_neg (by decide), x2]; rfl
                rw [x1, tb, px_1, px_2, y1, px_1]
                simp only [px_lt] at y2
                rw [y2]
                exact ⟨_, _, _, rfl, rfl, px_FC_t (px_FC_t fc0 x3) y3, px_FN_t (px_FN_t fm0 x4) y4, y5⟩
          · have t112' : ¬ nI (tx s) = (112 : Int32) := fun z => t112 ((nI_eq (b := 112) (by omega) (by omega)).mp z)
            have hx : (if nI (tx s) = 100 then (some 0 : Option Int32) else if nI (tx s) = 109 then some 1 else if nI (tx s) = 114 then some 2 else if nI (tx s) = 110 then some 3 else if nI (tx s) = 112 then some 4 else some (-1)) = some (-1) := by rw [if_neg t100', if_neg t109', if_neg t114', if_neg t110', if_neg t112']
            rw [hx, px_1, if_pos (show (-1 : Int32) < 0 by decide)]
            have ms : Rd_mayStand (nI (tx s)) C = some 0 := by
              unfold Rd_mayStand
              rw [if_neg t100', if_neg t100', if_neg t109', if_neg t114', if_neg t110', if_neg t112', ite_self]
            rw [ms, px_1, if_pos (show (0 : Int32) = 0 from rfl)]
            obtain ⟨C4, k1, k2, k3, k4⟩ := fl1
            rw [k1, px_1]
            unfold Mo_fails
            simp only [px_lt]
            rw [px_2]
            exact ⟨_, _, _, rfl, rfl, k2, k3, k4⟩
end PR6
