def px_words (d : Nat) : Nat := (px_num d + 63) / 64
theorem px_words_le {d : Nat} (h : d ≤ 4) : px_words d ≤ 157 := by have := px_num_le h; unfold px_words; omega
def px_row (x : Nat → Int64) (num words : Nat) (P : Nat → Bool) : Prop := ∀ w j, w < words → j < 64 → px_bt (x w) j = (decide (64 * w + j < num) && P (64 * w + j))
theorem px_shr6 {n : Nat} (h : n < 2 ^ 31) : nI n >>> ((6 : Int32) &&& 31) = nI (n / 64) := pk_shrN h _ 6 (by decide)
theorem px_and63 {n : Nat} (h : n < 2 ^ 31) : nI n &&& (63 : Int32) = nI (n % 64) := pk_andN (by omega) 6 (by decide)
theorem px_uj0 (S : gm_M) (t k t' : Nat) (v : Int64) (h : t' ≠ t) : (gm_uj S t k v).2 t' = S.2 t' := va_up_ne _ _ h
theorem px_fill1 (r words : Nat) (hr : r < 4) (hw : words ≤ 157) : ∀ (m w : Nat) (S : gm_M), S.1 12 6 = nI words → w ≤ words → words - w < m → ∃ S', Tb_fillRow_L2 (nI r) m (nI w) S = some S' ∧ S'.1 = S.1 ∧ (∀ t, t ≠ 14 + r → S'.2 t = S.2 t) ∧ (∀ v, v < w → S'.2 (14 + r) v = S.2 (14 + r) v) ∧ (∀ v, w ≤ v → v < words → S'.2 (14 + r) v = 0) := by
  intro m
  induction m with
  | zero => intro w S _ _ h; omega
  | succ m ih =>
    intro w S h6 hle hm
    have e : Tb_fillRow_L2 (nI r) (m + 1) (nI w) S = Tb_fillRow_L2_b (nI r) (Tb_fillRow_L2 (nI r) m) (nI w) S := rfl
    rw [e]
    unfold Tb_fillRow_L2_b
    rw [h6]
    by_cases c : words ≤ w
    · refine ⟨S, by simp (disch := omega) only [px_lit, px_litL, px_lt, px_1, px_2, px_3, px_ck, px_rm, px_le, px_ltI, px_eq, px_ne1, nI_add, pk_mul, pk_sub, pk_div, nI_clamp, px_ui, px_ui2, px_uj1, px_uj, px_uf, px_uf2, if_pos, if_neg, if_true, if_false, ↓reduceIte], rfl, fun _ _ => rfl, fun _ _ => rfl, fun v h1 h2 => by omega⟩
    · obtain ⟨S', h1, h2, h3, h4, h5⟩ := ih (w + 1) (gm_uj S (14 + r) w 0) (by rw [px_uj1]; exact h6) (by omega) (by omega)
      refine ⟨S', ?_, ?_, ?_, ?_, ?_⟩
      · simp (disch := omega) only [px_lit, px_le, px_lt, px_ck, nI_clamp, nI_add, if_neg, Nat.one_mul]
        exact h1
      · rw [h2, px_uj1]
      · intro t ht
        rw [h3 t ht, px_uj0 _ _ _ _ _ ht]
      · intro v hv
        rw [h4 v (by omega), px_uj, if_pos rfl, if_neg (by omega)]
      · intro v h6 h7
        by_cases ev : v = w
        · subst ev
          rw [h4 v (by omega), px_uj, if_pos rfl, if_pos rfl]
        · exact h5 v (by omega) h7
theorem px_fill2 {fl d r : Nat} {k a b : Nat} (hf : 10 ≤ fl) (hd : d ≤ 4) (hd0 : 0 < d) (hr : r < 4) (ht : px_told k a b) : ∀ (m i : Nat) (S : gm_M), S.1 12 5 = nI (px_num d) → S.1 12 4 = nI d → S.1 18 r = nI (px_code k a b) → i ≤ px_num d → px_num d - i < m → px_row (S.2 (14 + r)) i (px_words d) (px_yes d k a b) → ∃ S', Tb_fillRow_L27 fl (nI r) m (nI i) S = some S' ∧ (∀ t, t ≠ 20 → t ≠ 21 → S'.1 t = S.1 t) ∧ (∀ t, t ≠ 14 + r → S'.2 t = S.2 t) ∧ px_row (S'.2 (14 + r)) (px_num d) (px_words d) (px_yes d k a b) := by
  have hnum := px_num_le hd
  intro m
  induction m with
  | zero => intro i S _ _ _ _ h; omega
  | succ m ih =>
    intro i S h5 h4 h18 hi hm hrow
    have e : Tb_fillRow_L27 fl (nI r) (m + 1) (nI i) S = Tb_fillRow_L27_b fl (nI r) (Tb_fillRow_L27 fl (nI r) m) (nI i) S := rfl
    rw [e]
    unfold Tb_fillRow_L27_b
    rw [h5, h4]
    by_cases c : px_num d ≤ i
    · refine ⟨S, by simp (disch := omega) only [px_lit, px_litL, px_lt, px_1, px_2, px_3, px_ck, px_rm, px_le, px_ltI, px_eq, px_ne1, nI_add, pk_mul, pk_sub, pk_div, nI_clamp, px_ui, px_ui2, px_uj1, px_uj, px_uf, px_uf2, if_pos, if_neg, if_true, if_false, ↓reduceIte], fun _ _ _ => rfl, fun _ _ => rfl, ?_⟩
      rw [show px_num d = i by omega]
      exact hrow
    · obtain ⟨S1, g1, g2, g3, g4⟩ := px_spell fl 20 d i S hf hd (by omega)
      have g5 : S1.1 18 r = nI (px_code k a b) := by rw [g3 18 (by omega) (by omega)]; exact h18
      have g6 := px_csays hf g2 hd hd0 (by omega) ht
      have goal2 : ∀ S2 : gm_M, S2.1 = S1.1 → (∀ t, t ≠ 14 + r → S2.2 t = S1.2 t) → px_row (S2.2 (14 + r)) (i + 1) (px_words d) (px_yes d k a b) → ∃ S', Tb_fillRow_L27 fl (nI r) m (nI (i + 1)) S2 = some S' ∧ (∀ t, t ≠ 20 → t ≠ 21 → S'.1 t = S.1 t) ∧ (∀ t, t ≠ 14 + r → S'.2 t = S.2 t) ∧ px_row (S'.2 (14 + r)) (px_num d) (px_words d) (px_yes d k a b) := by
        intro S2 q1 q2 q3
        have q4 : ∀ t, t ≠ 20 → t ≠ 21 → S2.1 t = S.1 t := fun t x y => by rw [q1]; exact g3 t x y
        obtain ⟨S', w1, w2, w3, w4⟩ := ih (i + 1) S2 (by rw [q4 12 (by omega) (by omega)]; exact h5) (by rw [q4 12 (by omega) (by omega)]; exact h4) (by rw [q4 18 (by omega) (by omega)]; exact h18) (by omega) (by omega) q3
        exact ⟨S', w1, fun t x y => by rw [w2 t x y, q4 t x y], fun t x => by rw [w3 t x, q2 t x, g4], w4⟩
      have hnext : px_yes d k a b i = false → px_row (S1.2 (14 + r)) (i + 1) (px_words d) (px_yes d k a b) := by
        intro hy w j hw hj
        rw [g4, hrow w j hw hj]
        by_cases ej : 64 * w + j = i
        · rw [ej, hy, Bool.and_false, Bool.and_false]
        · rw [show decide (64 * w + j < i + 1) = decide (64 * w + j < i) from decide_eq_decide.mpr (by omega)]
      simp (disch := omega) only [px_lit, px_le, if_neg]
      rw [g1]
      simp only [px_1]
      simp (disch := omega) only [px_ck, nI_clamp]
      rw [g5, g6]
      simp only [px_1]
      cases hy : px_yes d k a b i
      · obtain ⟨S', w⟩ := goal2 S1 rfl (fun _ _ => rfl) (hnext hy)
        refine ⟨S', ?_, w.2⟩
        simp only [Bool.toNat_false]
        simp (disch := omega) only [px_eq, ↓reduceIte, px_1, px_lt, nI_add]
        exact w.1
      · have hq := goal2 (gm_uj S1 (14 + r) (i / 64) (S1.2 (14 + r) (i / 64) ||| (1 <<< ((nI (i % 64)).toInt64 &&& 63)))) rfl (fun t x => px_uj0 _ _ _ _ _ x) (by
          intro w j hw hj
          rw [px_uj, if_pos rfl]
          by_cases ew : w = i / 64
          · rw [if_pos ew, px_bt_or, px_bt_1 (Nat.mod_lt _ (by decide)) hj]
            subst ew
            rw [g4, hrow (i / 64) j hw hj]
            by_cases ej : i % 64 = j
            · rw [decide_eq_true ej, Bool.or_true, show 64 * (i / 64) + j = i by omega, hy, decide_eq_true (by omega)]
              rfl
            · rw [decide_eq_false ej, Bool.or_false, show decide (64 * (i / 64) + j < i + 1) = decide (64 * (i / 64) + j < i) from decide_eq_decide.mpr (by omega)]
          · rw [if_neg ew, g4, hrow w j hw hj, show decide (64 * w + j < i + 1) = decide (64 * w + j < i) from decide_eq_decide.mpr (by omega)])
        obtain ⟨S', w⟩ := hq
        refine ⟨S', ?_, w.2⟩
        simp only [Bool.toNat_true]
        have hs6 := px_shr6 (show i < 2 ^ 31 by omega)
        have ha6 := px_and63 (show i < 2 ^ 31 by omega)
        have hs6 : nI i >>> (nI 6 &&& nI 31) = nI (i / 64) := hs6
        have ha6 : nI i &&& nI 63 = nI (i % 64) := ha6
        simp (disch := omega) only [px_lit, px_eq, ↓reduceIte, px_1, px_lt, nI_add, hs6, ha6, px_ck, nI_clamp, Nat.one_mul]
        exact w.1
theorem px_fillRow {fl d r : Nat} {k a b : Nat} {S : gm_M} (hf : 20000 ≤ fl) (hd : d ≤ 4) (hd0 : 0 < d) (hr : r < 4) (ht : px_told k a b) (h4 : S.1 12 4 = nI d) (h5 : S.1 12 5 = nI (px_num d)) (h6 : S.1 12 6 = nI (px_words d)) (h18 : S.1 18 r = nI (px_code k a b)) : ∃ S', Tb_fillRow fl (nI r) S = some S' ∧ (∀ t, t ≠ 20 → t ≠ 21 → S'.1 t = S.1 t) ∧ (∀ t, t ≠ 14 + r → S'.2 t = S.2 t) ∧ px_row (S'.2 (14 + r)) (px_num d) (px_words d) (px_yes d k a b) := by
  have hw := px_words_le hd
  have hnum := px_num_le hd
  obtain ⟨S1, a1, a2, a3, a4, a5⟩ := px_fill1 r (px_words d) hr hw fl 0 S h6 (by omega) (by omega)
  obtain ⟨S2, b1, b2, b3, b4⟩ := px_fill2 (fl := fl) (r := r) (by omega) hd hd0 hr ht fl 0 S1 (by rw [a2]; exact h5) (by rw [a2]; exact h4) (by rw [a2]; exact h18) (by omega) (by omega) (by
    intro w j hw hj
    rw [a5 w (by omega) hw, px_bt_0, decide_eq_false (by omega), Bool.false_and])
  refine ⟨S2, ?_, fun t x y => by rw [b2 t x y, a2], fun t x => by rw [b3 t x, a3 t x], b4⟩
  unfold Tb_fillRow
  have a1 : Tb_fillRow_L2 (nI r) fl 0 S = some S1 := a1
  have b1 : Tb_fillRow_L27 fl (nI r) fl 0 S1 = some S2 := b1
  rw [a1]
  simp only [px_1]
  rw [b1]
  rfl
