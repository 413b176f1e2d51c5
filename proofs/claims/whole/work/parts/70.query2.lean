theorem px_e0 : (nI 0 = (0 : Int32)) = True := eq_true rfl
theorem px_e1 : (nI 1 = (0 : Int32)) = False := by decide
section PA
variable {C M : gm_M} {d nr nn np : Nat} {kd g : Nat → Nat} {fl : Nat}
theorem qx_rollOf (a0 a1 : Int32) (hf : 20000 ≤ fl) (h0 : px_V0 d nr nn np kd) (h1 : px_V1 d nr nn g) (hC : px_CT C 8 d nr nn np kd g) (hM : px_MT M d nr nn np kd g) (hT : px_TB C d nr g) : ∃ x, Lt_rollOf fl a0 a1 C = some x ∧ Mo_rollOf fl a0 a1 M = some x := by
  have hnn := h0.2.2.1
  have hnp := h0.2.2.2.1
  unfold Lt_rollOf Mo_rollOf
  rcases px_hasRoll a0 hC hM h0 with ⟨e1, e2⟩ | ⟨r, hr, rfl, e1, e2⟩
  · rw [e1, e2]
    simp only [px_1, px_e0, if_true]
    exact ⟨_, rfl, rfl⟩
  · rw [e1, e2]
    simp only [px_1, px_e1, if_false]
    obtain ⟨hat, hle⟩ := h1.2.2.1 r hr
    obtain ⟨q1, q2⟩ := px_left hC h0 hr
    obtain ⟨x, s1, s2, s3⟩ := px_soon (fl := fl) (by omega) h0 h1 hC hM hT hr
    obtain ⟨y, y0, y1, y2⟩ := px_lleft (fl := fl) (by omega) h0 h1 hC hM hT hr
    by_cases c0 : a1 = 0
    · rw [if_pos c0, if_pos c0, q2]
      simp (disch := omega) only [px_lit, px_litL, px_lt, px_1, px_2, px_3, px_ck, px_rm, px_le, px_ltI, px_eq, px_ne1, nI_add, pk_mul, pk_sub, pk_div, nI_clamp, px_ui, px_ui2, px_uj1, px_uj, px_uf, px_uf2, if_pos, if_neg, if_true, if_false, ↓reduceIte]
      rw [px_mrow hM (by omega)]
      exact ⟨_, rfl, rfl⟩
    rw [if_neg c0, if_neg c0]
    by_cases c1 : a1 = 1
    · rw [if_pos c1, if_pos c1, q1]
      simp (disch := omega) only [px_lit, px_litL, px_lt, px_1, px_2, px_3, px_ck, px_rm, px_le, px_ltI, px_eq, px_ne1, nI_add, pk_mul, pk_sub, pk_div, nI_clamp, px_ui, px_ui2, px_uj1, px_uj, px_uf, px_uf2, if_pos, if_neg, if_true, if_false, ↓reduceIte]
      rw [px_mrow hM (by omega)]
      exact ⟨_, rfl, rfl⟩
    rw [if_neg c1, if_neg c1]
    by_cases c2 : a1 = 2
    · rw [if_pos c2, if_pos c2, s1, s2]
      exact ⟨x, rfl, rfl⟩
    rw [if_neg c2, if_neg c2]
    by_cases c3 : a1 = 3
    · rw [if_pos c3, if_pos c3]
      unfold Lt_whoGetsIt Mo_who
      rw [s1, s2, hC.2.2.2.2.2.1, hM.2.2.2.2.1]
      simp only [px_1]
      rcases s3 with rfl | ⟨j, hj, rfl⟩
      · rw [if_pos rfl, if_pos (by decide)]
        exact ⟨_, rfl, rfl⟩
      · by_cases c4 : np = 0
        · subst c4
          simp (disch := omega) only [px_lit, px_litL, px_lt, px_1, px_2, px_3, px_ck, px_rm, px_le, px_ltI, px_eq, px_ne1, nI_add, pk_mul, pk_sub, pk_div, nI_clamp, px_ui, px_ui2, px_uj1, px_uj, px_uf, px_uf2, if_pos, if_neg, if_true, if_false, ↓reduceIte, Nat.not_lt_zero]
          exact ⟨_, rfl, rfl⟩
        · simp (disch := omega) only [px_lit, px_litL, px_lt, px_1, px_2, px_3, px_ck, px_rm, px_le, px_ltI, px_eq, px_ne1, nI_add, pk_mul, pk_sub, pk_div, nI_clamp, px_ui, px_ui2, px_uj1, px_uj, px_uf, px_uf2, if_pos, if_neg, if_true, if_false, ↓reduceIte, Nat.not_lt_zero]
          exact ⟨_, rfl, rfl⟩
    rw [if_neg c3, if_neg c3]
    have hgl2 : Nat.gcd (g (17 + r)) y ≤ 200 := by
      rcases Nat.eq_zero_or_pos (g (17 + r)) with h | h
      · rw [h, Nat.gcd_zero_left]; omega
      · exact Nat.le_trans (Nat.gcd_le_left _ h) hle
    have hgp : 0 < y → 0 < Nat.gcd (g (17 + r)) y := fun h => Nat.gcd_pos_of_pos_right _ h
    obtain ⟨D, hD1, hD2, hD3⟩ : ∃ D, Lt_partDivisor fl (nI r) C = some (nI D) ∧ (0 < D ∧ D ≤ 200) ∧ (0 < y → D = Nat.gcd (g (17 + r)) y) := by
      unfold Lt_partDivisor
      rw [q1, y1]
      simp only [px_1]
      have L := px_gcdC fl 0 (g (17 + r)) y y0 hle (by omega) (by omega)
      have L : Lt_partDivisor_L18 fl (nI (g (17 + r))) (nI y) 0 = _ := L
      rw [L]
      by_cases c : 1 < Nat.gcd (g (17 + r)) y
      · refine ⟨Nat.gcd (g (17 + r)) y, ?_, by omega, fun _ => rfl⟩
        simp (disch := omega) only [px_lit, px_litL, px_lt, px_1, px_2, px_3, px_ck, px_rm, px_le, px_ltI, px_eq, px_ne1, nI_add, pk_mul, pk_sub, pk_div, nI_clamp, px_ui, px_ui2, px_uj1, px_uj, px_uf, px_uf2, if_pos, if_neg, if_true, if_false, ↓reduceIte]
      · refine ⟨1, ?_, by omega, fun h => by have := hgp h; omega⟩
        simp (disch := omega) only [px_lit, px_litL, px_lt, px_1, px_2, px_3, px_ck, px_rm, px_le, px_ltI, px_eq, px_ne1, nI_add, pk_mul, pk_sub, pk_div, nI_clamp, px_ui, px_ui2, px_uj1, px_uj, px_uf, px_uf2, if_pos, if_neg, if_true, if_false, ↓reduceIte]
    have hP : Mo_part fl (nI r) 1 M = some (nI (y / D)) ∧ Mo_part fl (nI r) 0 M = some (nI (if y = 0 then 1 else g (17 + r) / D)) := by
      unfold Mo_part
      rw [y2]
      by_cases c : y = 0
      · subst c
        rw [if_pos rfl, Nat.zero_div]
        simp (disch := omega) only [px_lit, px_litL, px_lt, px_1, px_2, px_3, px_ck, px_rm, px_le, px_ltI, px_eq, px_ne1, nI_add, pk_mul, pk_sub, pk_div, nI_clamp, px_ui, px_ui2, px_uj1, px_uj, px_uf, px_uf2, if_pos, if_neg, if_true, if_false, ↓reduceIte]
        first | exact ⟨rfl, rfl⟩ | trivial
      · rw [if_neg c, hD3 (by omega)]
        have hg0 : 0 < Nat.gcd y (g (17 + r)) := Nat.gcd_pos_of_pos_left _ (by omega)
        have hgl : Nat.gcd y (g (17 + r)) ≤ y := Nat.gcd_le_left _ (by omega)
        simp (disch := omega) only [px_lit, px_litL, px_lt, px_1, px_2, px_3, px_ck, px_rm, px_le, px_ltI, px_eq, px_ne1, nI_add, pk_mul, pk_sub, pk_div, nI_clamp, px_ui, px_ui2, px_uj1, px_uj, px_uf, px_uf2, if_pos, if_neg, if_true, if_false, ↓reduceIte]
        rw [px_mrow hM (by omega), px_gcdM fl y (g (17 + r)) (by omega) (by omega) (by omega), Nat.gcd_comm (g (17 + r)) y]
        simp (disch := omega) only [px_lit, px_litL, px_lt, px_1, px_2, px_3, px_ck, px_rm, px_le, px_ltI, px_eq, px_ne1, nI_add, pk_mul, pk_sub, pk_div, nI_clamp, px_ui, px_ui2, px_uj1, px_uj, px_uf, px_uf2, if_pos, if_neg, if_true, if_false, ↓reduceIte]
        first | exact ⟨rfl, rfl⟩ | trivial
    by_cases c4 : a1 = 4
    · rw [if_pos c4, if_pos c4, y1, hD1, hP.1]
      simp (disch := omega) only [px_lit, px_litL, px_lt, px_1, px_2, px_3, px_ck, px_rm, px_le, px_ltI, px_eq, px_ne1, nI_add, pk_mul, pk_sub, pk_div, nI_clamp, px_ui, px_ui2, px_uj1, px_uj, px_uf, px_uf2, if_pos, if_neg, if_true, if_false, ↓reduceIte]
      exact ⟨_, rfl, rfl⟩
    rw [if_neg c4, if_neg c4]
    by_cases c5 : a1 = 5
    · rw [if_pos c5, if_pos c5, y1, hP.2, q1, hD1]
      by_cases c : y = 0
      · subst c
        simp (disch := omega) only [px_lit, px_litL, px_lt, px_1, px_2, px_3, px_ck, px_rm, px_le, px_ltI, px_eq, px_ne1, nI_add, pk_mul, pk_sub, pk_div, nI_clamp, px_ui, px_ui2, px_uj1, px_uj, px_uf, px_uf2, if_pos, if_neg, if_true, if_false, ↓reduceIte]
        exact ⟨_, rfl, rfl⟩
      · simp (disch := omega) only [px_lit, px_litL, px_lt, px_1, px_2, px_3, px_ck, px_rm, px_le, px_ltI, px_eq, px_ne1, nI_add, pk_mul, pk_sub, pk_div, nI_clamp, px_ui, px_ui2, px_uj1, px_uj, px_uf, px_uf2, if_pos, if_neg, if_true, if_false, ↓reduceIte]
        exact ⟨_, rfl, rfl⟩
    rw [if_neg c5, if_neg c5]
    exact ⟨_, rfl, rfl⟩
theorem px_best_L (hf : 20000 ≤ fl) (h0 : px_V0 d nr nn np kd) (h1 : px_V1 d nr nn g) (hC : px_CT C 8 d nr nn np kd g) (hM : px_MT M d nr nn np kd g) (hT : px_TB C d nr g) : ∀ (m i : Nat) (b bs ls : Int32), i ≤ nn → nn - i < m → ((b = -1 ∧ ls = 1000) ∨ (∃ k j, k < 4 ∧ j < 200 ∧ b = nI k ∧ bs = nI j ∧ ls = nI j)) → ∃ x, Lt_bestRoll_L6 fl C m b bs (nI i) = some x ∧ Mo_bestRoll_L8 fl M m b ls (nI i) = some x := by
  have hnn := h0.2.2.1
  intro m
  induction m with
  | zero => intro i b bs ls _ h; omega
  | succ m ih =>
    intro i b bs ls hi hm inv
    have e1 : Lt_bestRoll_L6 fl C (m + 1) b bs (nI i) = Lt_bestRoll_L6_b fl C (Lt_bestRoll_L6 fl C m) b bs (nI i) := rfl
    have e2 : Mo_bestRoll_L8 fl M (m + 1) b ls (nI i) = Mo_bestRoll_L8_b fl M (Mo_bestRoll_L8 fl M m) b ls (nI i) := rfl
    rw [e1, e2]
    unfold Lt_bestRoll_L6_b Mo_bestRoll_L8_b
    rw [hC.2.2.2.2.1, hM.2.2.2.1]
    by_cases c : nn ≤ i
    · rw [if_pos ((nI_leI (by omega) (by omega)).mpr c), if_pos ((nI_leI (by omega) (by omega)).mpr c)]
      exact ⟨b, rfl, rfl⟩
    · rw [if_neg (fun q => c ((nI_leI (by omega) (by omega)).mp q)), if_neg (fun q => c ((nI_leI (by omega) (by omega)).mp q))]
      obtain ⟨x, s1, s2, s3⟩ := px_soon (fl := fl) (r := i) (by omega) h0 h1 hC hM hT (by omega)
      have hle := (h1.2.2.1 i (by omega)).2
      rw [s1, s2]
      simp only [px_1, px_2, px_lt]
      have en : nI i + 1 = nI (i + 1) := nI_1 i
      rw [en]
      rcases s3 with rfl | ⟨j, hj, rfl⟩
      · rw [if_pos rfl, if_pos (by decide)]
        simp only [px_1, px_2, if_true]
        exact ih (i + 1) b bs ls (by omega) (by omega) inv
      · have n1 : ¬ nI j = (-1 : Int32) := by rw [show (-1 : Int32) = -nI 1 from rfl, px_ne1 (by omega) (by omega) (by omega)]; exact id
        rw [if_neg n1, if_neg (nI_pos (by omega))]
        rcases inv with ⟨rfl, rfl⟩ | ⟨k, j0, hk, hj0, rfl, rfl, rfl⟩
        · rw [if_pos rfl, if_neg (show ¬ (1000 : Int32) ≤ nI j from fun q => by have := (nI_leI (a := 1000) (by omega) (by omega)).mp q; omega)]
          simp only [px_1, px_2]
          rw [if_neg (by decide), if_neg (by decide)]
          simp only [px_1]
          exact ih (i + 1) (nI i) (nI j) (nI j) (by omega) (by omega) (Or.inr ⟨i, j, by omega, by omega, rfl, rfl, rfl⟩)
        · have n2 : ¬ nI k = (-1 : Int32) := by rw [show (-1 : Int32) = -nI 1 from rfl, px_ne1 (by omega) (by omega) (by omega)]; exact id
          rw [if_neg n2]
          by_cases c2 : j0 ≤ j
          · rw [if_pos ((nI_leI (by omega) (by omega)).mpr c2), if_pos ((nI_leI (by omega) (by omega)).mpr c2)]
            simp only [px_1, px_2, if_true]
            exact ih (i + 1) (nI k) (nI j0) (nI j0) (by omega) (by omega) (Or.inr ⟨k, j0, hk, hj0, rfl, rfl, rfl⟩)
          · rw [if_neg (fun q => c2 ((nI_leI (by omega) (by omega)).mp q)), if_neg (fun q => c2 ((nI_leI (by omega) (by omega)).mp q))]
            simp only [px_1, px_2]
            rw [if_neg (by decide), if_neg (by decide)]
            simp only [px_1]
            exact ih (i + 1) (nI i) (nI j) (nI j) (by omega) (by omega) (Or.inr ⟨i, j, by omega, by omega, rfl, rfl, rfl⟩)
theorem qx_best (hf : 20000 ≤ fl) (h0 : px_V0 d nr nn np kd) (h1 : px_V1 d nr nn g) (hC : px_CT C 8 d nr nn np kd g) (hM : px_MT M d nr nn np kd g) (hT : px_TB C d nr g) : ∃ x, Lt_bestRoll fl C = some x ∧ Mo_bestRoll fl M = some x := by
  have hnn := h0.2.2.1
  obtain ⟨x, a1, a2⟩ := px_best_L (fl := fl) hf h0 h1 hC hM hT fl 0 (-1) (-1) 1000 (by omega) (by omega) (Or.inl ⟨rfl, rfl⟩)
  have a1 : Lt_bestRoll_L6 fl C fl (-1) (-1) 0 = some x := a1
  have a2 : Mo_bestRoll_L8 fl M fl (-1) 1000 0 = some x := a2
  unfold Lt_bestRoll Mo_bestRoll
  rw [a1, a2]
  exact ⟨x, rfl, rfl⟩
theorem px_rider {p : Nat} (hC : px_CT C 8 d nr nn np kd g) (h0 : px_V0 d nr nn np kd) (hp : p < np) : Tr_riderCell 8 (nI p) 0 C = some (nI (kd p)) ∧ Tr_riderCell 8 (nI p) 1 C = some (nI (g (21 + p))) ∧ Tr_riderCell 8 (nI p) 2 C = some (nI (g (26 + p))) ∧ Tr_riderCell 8 (nI p) 3 C = some (nI (g (31 + p))) ∧ Tr_riderCell 8 (nI p) 4 C = some (nI (g (36 + p))) := by
  have hb := h0.2.2.2.1
  obtain ⟨h1, h2, h3, h4, h5⟩ := hC.2.2.2.2.2.2.2.2 p hp
  unfold Tr_riderCell
  refine ⟨?_, ?_, ?_, ?_, ?_⟩
  · simp (disch := omega) only [px_lit, px_litL, px_lt, px_1, px_2, px_3, px_ck, px_rm, px_le, px_ltI, px_eq, px_ne1, nI_add, pk_mul, pk_sub, pk_div, nI_clamp, px_ui, px_ui2, px_uj1, px_uj, px_uf, px_uf2, if_pos, if_neg, if_true, if_false, ↓reduceIte]
    show some (C.1 (8 + 3) (p * 5)) = _
    rw [h1]
  · simp (disch := omega) only [px_lit, px_litL, px_lt, px_1, px_2, px_3, px_ck, px_rm, px_le, px_ltI, px_eq, px_ne1, nI_add, pk_mul, pk_sub, pk_div, nI_clamp, px_ui, px_ui2, px_uj1, px_uj, px_uf, px_uf2, if_pos, if_neg, if_true, if_false, ↓reduceIte]
    rw [h2]
  · simp (disch := omega) only [px_lit, px_litL, px_lt, px_1, px_2, px_3, px_ck, px_rm, px_le, px_ltI, px_eq, px_ne1, nI_add, pk_mul, pk_sub, pk_div, nI_clamp, px_ui, px_ui2, px_uj1, px_uj, px_uf, px_uf2, if_pos, if_neg, if_true, if_false, ↓reduceIte]
    rw [h3]
  · simp (disch := omega) only [px_lit, px_litL, px_lt, px_1, px_2, px_3, px_ck, px_rm, px_le, px_ltI, px_eq, px_ne1, nI_add, pk_mul, pk_sub, pk_div, nI_clamp, px_ui, px_ui2, px_uj1, px_uj, px_uf, px_uf2, if_pos, if_neg, if_true, if_false, ↓reduceIte]
    rw [h4]
  · simp (disch := omega) only [px_lit, px_litL, px_lt, px_1, px_2, px_3, px_ck, px_rm, px_le, px_ltI, px_eq, px_ne1, nI_add, pk_mul, pk_sub, pk_div, nI_clamp, px_ui, px_ui2, px_uj1, px_uj, px_uf, px_uf2, if_pos, if_neg, if_true, if_false, ↓reduceIte]
    rw [h5]
theorem px_lst_L (h0 : px_V0 d nr nn np kd) (hC : px_CT C 8 d nr nn np kd g) (hM : px_MT M d nr nn np kd g) : ∀ (m i : Nat) (b mo : Int32), i ≤ np → np - i < m → ∃ x, Tr_luckiestRider_L6 8 C m b mo (nI i) = some x ∧ Mo_luckiest_L6 M m b mo (nI i) = some x := by
  have hnp := h0.2.2.2.1
  intro m
  induction m with
  | zero => intro i b mo _ h; omega
  | succ m ih =>
    intro i b mo hi hm
    have e1 : Tr_luckiestRider_L6 8 C (m + 1) b mo (nI i) = Tr_luckiestRider_L6_b 8 C (Tr_luckiestRider_L6 8 C m) b mo (nI i) := rfl
    have e2 : Mo_luckiest_L6 M (m + 1) b mo (nI i) = Mo_luckiest_L6_b M (Mo_luckiest_L6 M m) b mo (nI i) := rfl
    rw [e1, e2]
    unfold Tr_luckiestRider_L6_b Mo_luckiest_L6_b
    rw [hC.2.2.2.2.2.1, hM.2.2.2.2.1]
    by_cases c : np ≤ i
    · rw [if_pos ((nI_leI (by omega) (by omega)).mpr c), if_pos ((nI_leI (by omega) (by omega)).mpr c)]
      exact ⟨b, rfl, rfl⟩
    · rw [if_neg (fun q => c ((nI_leI (by omega) (by omega)).mp q)), if_neg (fun q => c ((nI_leI (by omega) (by omega)).mp q))]
      obtain ⟨-, -, r2, r3, -⟩ := px_rider (p := i) hC h0 (by omega)
      rw [r2, r3]
      simp (disch := omega) only [px_1, px_2, px_lt, px_lit, nI_add, px_ck, nI_clamp]
      rw [px_mrow hM (show 26 + i < 42 by omega), px_mrow hM (show 31 + i < 42 by omega)]
      simp (disch := omega) only [nI_add]
      by_cases c2 : nI (g (26 + i) + g (31 + i)) ≤ mo
      · simp only [if_pos c2, px_1, px_2]
        exact ih (i + 1) b mo (by omega) (by omega)
      · simp only [if_neg c2, px_1, px_2]
        exact ih (i + 1) _ _ (by omega) (by omega)
theorem qx_luckiest (hf : 100 ≤ fl) (h0 : px_V0 d nr nn np kd) (hC : px_CT C 8 d nr nn np kd g) (hM : px_MT M d nr nn np kd g) : ∃ x, Tr_luckiestRider fl 8 C = some x ∧ Mo_luckiest fl M = some x := by
  have hnp := h0.2.2.2.1
  obtain ⟨x, a1, a2⟩ := px_lst_L h0 hC hM fl 0 (-1) (-1) (by omega) (by omega)
  have a1 : Tr_luckiestRider_L6 8 C fl (-1) (-1) 0 = some x := a1
  have a2 : Mo_luckiest_L6 M fl (-1) (-1) 0 = some x := a2
  unfold Tr_luckiestRider Mo_luckiest
  rw [a1, a2]
  exact ⟨x, rfl, rfl⟩
theorem qx_rider (a0 a1 : Int32) (h0 : px_V0 d nr nn np kd) (hC : px_CT C 8 d nr nn np kd g) (hM : px_MT M d nr nn np kd g) : ∃ x, Lt_rider a0 a1 C = some x ∧ Mo_rider a0 a1 M = some x := by
  have hnp := h0.2.2.2.1
  unfold Lt_rider Mo_rider
  rcases px_hasRider a0 hC hM h0 with ⟨e1, e2⟩ | ⟨p, hp, rfl, e1, e2⟩
  · rw [e1, e2]
    simp only [px_1, px_e0, if_true]
    exact ⟨_, rfl, rfl⟩
  · rw [e1, e2]
    simp only [px_1, px_e1, if_false]
    obtain ⟨r0, r1, r2, r3, r4⟩ := px_rider (p := p) hC h0 hp
    have hk := hM.2.2.2.2.2.2 p hp
    rcases pk_ix a1 (n := 5) (by omega) with h | h | ⟨j, hj, rfl⟩
    · have n0 : ∀ k, k < 5 → ¬ a1 = nI k := fun k hk q => by rw [q] at h; exact absurd h (nI_pos (by omega))
      rw [if_pos h, if_neg (show ¬ a1 = (0 : Int32) from n0 0 (by omega)), if_neg (show ¬ a1 = (1 : Int32) from n0 1 (by omega)), if_neg (show ¬ a1 = (2 : Int32) from n0 2 (by omega)), if_neg (show ¬ a1 = (3 : Int32) from n0 3 (by omega)), if_neg (show ¬ a1 = (4 : Int32) from n0 4 (by omega))]
      exact ⟨_, rfl, rfl⟩
    · have n0 : ∀ k, k < 5 → ¬ a1 = nI k := fun k hk q => by rw [q] at h; exact absurd h (nI_ge hk (by omega))
      rw [if_neg (show ¬ a1 < (5 : Int32) from Int32.not_lt.mpr h), if_neg (show ¬ a1 = (0 : Int32) from n0 0 (by omega)), if_neg (show ¬ a1 = (1 : Int32) from n0 1 (by omega)), if_neg (show ¬ a1 = (2 : Int32) from n0 2 (by omega)), if_neg (show ¬ a1 = (3 : Int32) from n0 3 (by omega)), if_neg (show ¬ a1 = (4 : Int32) from n0 4 (by omega))]
      refine ⟨_, ?_, rfl⟩
      split <;> rfl
    · rcases (show j = 0 ∨ j = 1 ∨ j = 2 ∨ j = 3 ∨ j = 4 by omega) with rfl | rfl | rfl | rfl | rfl
      · have r0 : Tr_riderCell 8 (nI p) (nI 0) C = some (nI (kd p)) := r0
        rw [r0]
        simp (disch := omega) only [px_lit, px_litL, px_lt, px_1, px_2, px_3, px_ck, px_rm, px_le, px_ltI, px_eq, px_ne1, nI_add, pk_mul, pk_sub, pk_div, nI_clamp, px_ui, px_ui2, px_uj1, px_uj, px_uf, px_uf2, if_pos, if_neg, if_true, if_false, ↓reduceIte, hk]
        exact ⟨_, rfl, rfl⟩
      · have r1 : Tr_riderCell 8 (nI p) (nI 1) C = some (nI (g (21 + p))) := r1
        rw [r1]
        simp (disch := omega) only [px_lit, px_litL, px_lt, px_1, px_2, px_3, px_ck, px_rm, px_le, px_ltI, px_eq, px_ne1, nI_add, pk_mul, pk_sub, pk_div, nI_clamp, px_ui, px_ui2, px_uj1, px_uj, px_uf, px_uf2, if_pos, if_neg, if_true, if_false, ↓reduceIte]
        rw [px_mrow hM (show 21 + p < 42 by omega)]
        exact ⟨_, rfl, rfl⟩
      · have r2 : Tr_riderCell 8 (nI p) (nI 2) C = some (nI (g (26 + p))) := r2
        rw [r2]
        simp (disch := omega) only [px_lit, px_litL, px_lt, px_1, px_2, px_3, px_ck, px_rm, px_le, px_ltI, px_eq, px_ne1, nI_add, pk_mul, pk_sub, pk_div, nI_clamp, px_ui, px_ui2, px_uj1, px_uj, px_uf, px_uf2, if_pos, if_neg, if_true, if_false, ↓reduceIte]
        rw [px_mrow hM (show 26 + p < 42 by omega)]
        exact ⟨_, rfl, rfl⟩
      · have r3 : Tr_riderCell 8 (nI p) (nI 3) C = some (nI (g (31 + p))) := r3
        rw [r3]
        simp (disch := omega) only [px_lit, px_litL, px_lt, px_1, px_2, px_3, px_ck, px_rm, px_le, px_ltI, px_eq, px_ne1, nI_add, pk_mul, pk_sub, pk_div, nI_clamp, px_ui, px_ui2, px_uj1, px_uj, px_uf, px_uf2, if_pos, if_neg, if_true, if_false, ↓reduceIte]
        rw [px_mrow hM (show 31 + p < 42 by omega)]
        exact ⟨_, rfl, rfl⟩
      · have r4 : Tr_riderCell 8 (nI p) (nI 4) C = some (nI (g (36 + p))) := r4
        rw [r4]
        simp (disch := omega) only [px_lit, px_litL, px_lt, px_1, px_2, px_3, px_ck, px_rm, px_le, px_ltI, px_eq, px_ne1, nI_add, pk_mul, pk_sub, pk_div, nI_clamp, px_ui, px_ui2, px_uj1, px_uj, px_uf, px_uf2, if_pos, if_neg, if_true, if_false, ↓reduceIte]
        rw [px_mrow hM (show 36 + p < 42 by omega)]
        exact ⟨_, rfl, rfl⟩
end PA
