def px_tk (S : gm_M) (t d n : Nat) : Prop := S.1 t 1 = nI d ∧ S.1 t 2 = nI n ∧ ∀ k, k < d → S.1 (t + 1) k = nI (px_dg d n k)
def px_code (k a b : Nat) : Nat := k * 10000 + a * 100 + b
theorem px_spell_L (t : Nat) : ∀ (m j r : Nat) (S : gm_M), j ≤ 4 → j < m → r < 2 ^ 31 → ∃ S', Tk_spell_L24 t m (nI r) (nI j + -1) S = some S' ∧ (∀ k, k < j → S'.1 (t + 1) k = nI (r / 10 ^ (j - 1 - k) % 10)) ∧ (∀ k, j ≤ k → S'.1 (t + 1) k = S.1 (t + 1) k) ∧ (∀ t', t' ≠ t + 1 → S'.1 t' = S.1 t') ∧ S'.2 = S.2 := by
  intro m
  induction m with
  | zero => intro j r S _ h; omega
  | succ m ih =>
    intro j r S hj hm hr
    cases j with
    | zero =>
      refine ⟨S, ?_, fun k h => by omega, fun k _ => rfl, fun _ _ => rfl, rfl⟩
      show Tk_spell_L24_b t (Tk_spell_L24 t m) _ _ _ = _
      unfold Tk_spell_L24_b
      rw [if_pos (by decide)]
    | succ j =>
      have hr2 : r / 10 ≤ r := Nat.div_le_self r 10
      obtain ⟨S', h1, h2, h3, h4, h5⟩ := ih j (r / 10) (gm_ui S (t + 1) j (nI (r % 10))) (by omega) (by omega) (by omega)
      refine ⟨S', ?_, ?_, ?_, ?_, ?_⟩
      · show Tk_spell_L24_b t (Tk_spell_L24 t m) _ _ _ = _
        unfold Tk_spell_L24_b
        rw [pk_m1 j]
        simp (disch := omega) only [px_lit, px_litL, px_lt, px_1, px_2, px_3, px_ck, px_rm, px_le, px_ltI, px_eq, px_ne1, nI_add, pk_mul, pk_sub, pk_div, nI_clamp, px_ui, px_ui2, px_uj1, px_uj, px_uf, px_uf2, if_pos, if_neg, if_true, if_false, ↓reduceIte, Nat.not_lt_zero]
        exact h1
      · intro k hk
        by_cases e : k = j
        · subst e
          rw [h3 k (Nat.le_refl _)]
          simp [px_ui]
        · rw [h2 k (by omega), Nat.div_div_eq_div_mul, show j + 1 - 1 - k = (j - 1 - k) + 1 by omega, Nat.pow_succ, Nat.mul_comm]
      · intro k hk
        rw [h3 k (by omega)]
        simp [px_ui, show k ≠ j by omega]
      · intro t' ht
        rw [h4 t' ht, px_ui0 _ _ _ _ _ ht]
      · rw [h5]; rfl
theorem px_spell (fl t d n : Nat) (S : gm_M) (hf : 10 ≤ fl) (hd : d ≤ 4) (hn : n < 2 ^ 31) : ∃ S', Tk_spell fl t (nI n) (nI d) S = some S' ∧ px_tk S' t d n ∧ (∀ t', t' ≠ t → t' ≠ t + 1 → S'.1 t' = S.1 t') ∧ S'.2 = S.2 := by
  obtain ⟨S', h1, h2, h3, h4, h5⟩ := px_spell_L t fl d n (gm_ui (gm_ui S t 1 (nI d)) t 2 (nI n)) hd (by omega) hn
  refine ⟨S', ?_, ⟨?_, ?_, ?_⟩, ?_, ?_⟩
  · unfold Tk_spell
    have e : (if (4 : Int32) < nI d then (4 : Int32) else nI d) = nI d := by
      simp (disch := omega) only [px_lit, px_ltI, if_neg]
    simp only [px_lt]
    rw [e]
    have e2 : (gm_ui (gm_ui S t 1 (nI d)) t 2 (nI n)).1 t 1 - 1 = nI d + -1 := by
      simp only [px_ui, if_true]
      rw [if_neg (by decide)]
      exact Int32.sub_eq_add_neg _ _
    rw [e2, h1]
    rfl
  · rw [h4 t (by omega)]; simp [px_ui]
  · rw [h4 t (by omega)]; simp [px_ui]
  · intro k hk
    rw [h2 k hk]; rfl
  · intro t' a b
    rw [h4 t' b, px_ui0 _ _ _ _ _ a, px_ui0 _ _ _ _ _ a]
  · rw [h5]; rfl
section PT
variable {fl d n t : Nat} {S : gm_M}
theorem px_chal_L (h : px_tk S t d n) (hd : d ≤ 4) : ∀ (m j : Nat), j ≤ d / 2 → d / 2 - j < m → Tk_halvesApart_L4 t S m (iZ (px_hs d n j)) (nI j) = some (iZ (px_hs d n (d / 2))) := by
  intro m
  induction m with
  | zero => intro j _ h1; omega
  | succ m ih =>
    intro j hj hm
    show Tk_halvesApart_L4_b t S (Tk_halvesApart_L4 t S m) _ _ = _
    unfold Tk_halvesApart_L4_b
    rw [h.1]
    by_cases hc : d / 2 ≤ j
    · simp (disch := omega) only [px_lit, px_litL, px_lt, px_1, px_2, px_3, px_ck, px_rm, px_le, px_ltI, px_eq, px_ne1, nI_add, pk_mul, pk_sub, pk_div, nI_clamp, px_ui, px_ui2, px_uj1, px_uj, px_uf, px_uf2, if_pos, if_neg, if_true, if_false, ↓reduceIte]
      rw [show d / 2 = j by omega]
    · simp (disch := omega) only [px_lit, px_litL, px_lt, px_1, px_2, px_3, px_ck, px_rm, px_le, px_ltI, px_eq, px_ne1, nI_add, pk_mul, pk_sub, pk_div, nI_clamp, px_ui, px_ui2, px_uj1, px_uj, px_uf, px_uf2, if_pos, if_neg, if_true, if_false, ↓reduceIte]
      rw [h.2.2 j (by omega), h.2.2 (d - 1 - j) (by omega), px_iZn (px_dg d n j), px_iZn (px_dg d n (d - 1 - j)), px_iZs, px_iZa]
      exact ih (j + 1) (by omega) (by omega)
theorem px_cun_L (h : px_tk S t d n) (hd : d ≤ 4) : ∀ (m j : Nat), j ≤ d / 2 → d / 2 - j < m → Tk_unlikePairs_L4 t S m (nI (px_un d n j)) (nI j) = some (nI (px_un d n (d / 2))) := by
  intro m
  induction m with
  | zero => intro j _ h1; omega
  | succ m ih =>
    intro j hj hm
    show Tk_unlikePairs_L4_b t S (Tk_unlikePairs_L4 t S m) _ _ = _
    unfold Tk_unlikePairs_L4_b
    rw [h.1]
    by_cases hc : d / 2 ≤ j
    · simp (disch := omega) only [px_lit, px_litL, px_lt, px_1, px_2, px_3, px_ck, px_rm, px_le, px_ltI, px_eq, px_ne1, nI_add, pk_mul, pk_sub, pk_div, nI_clamp, px_ui, px_ui2, px_uj1, px_uj, px_uf, px_uf2, if_pos, if_neg, if_true, if_false, ↓reduceIte]
      rw [show d / 2 = j by omega]
    · simp (disch := omega) only [px_lit, px_litL, px_lt, px_1, px_2, px_3, px_ck, px_rm, px_le, px_ltI, px_eq, px_ne1, nI_add, pk_mul, pk_sub, pk_div, nI_clamp, px_ui, px_ui2, px_uj1, px_uj, px_uf, px_uf2, if_pos, if_neg, if_true, if_false, ↓reduceIte]
      rw [h.2.2 j (by omega), h.2.2 (d - 1 - j) (by omega)]
      have b1 := px_dg_lt d n j
      have b2 := px_dg_lt d n (d - 1 - j)
      have i1 := ih (j + 1) (by omega) (by omega)
      simp only [px_un] at i1
      by_cases e : px_dg d n j = px_dg d n (d - 1 - j)
      · rw [if_pos e] at i1
        simp (disch := omega) only [px_lit, px_litL, px_lt, px_1, px_2, px_3, px_ck, px_rm, px_le, px_ltI, px_eq, px_ne1, nI_add, pk_mul, pk_sub, pk_div, nI_clamp, px_ui, px_ui2, px_uj1, px_uj, px_uf, px_uf2, if_pos, if_neg, if_true, if_false, ↓reduceIte]
        exact i1
      · rw [if_neg e] at i1
        simp (disch := omega) only [px_lit, px_litL, px_lt, px_1, px_2, px_3, px_ck, px_rm, px_le, px_ltI, px_eq, px_ne1, nI_add, pk_mul, pk_sub, pk_div, nI_clamp, px_ui, px_ui2, px_uj1, px_uj, px_uf, px_uf2, if_pos, if_neg, if_true, if_false, ↓reduceIte]
        exact i1
theorem px_cct_L {a : Nat} (ha : a < 2 ^ 31) (h : px_tk S t d n) (hd : d ≤ 4) : ∀ (m j : Nat), j ≤ d → d - j < m → Tk_timesThere_L4 t (nI a) S m (nI (px_ct d n a j)) (nI j) = some (nI (px_ct d n a d)) := by
  intro m
  induction m with
  | zero => intro j _ h1; omega
  | succ m ih =>
    intro j hj hm
    show Tk_timesThere_L4_b t (nI a) S (Tk_timesThere_L4 t (nI a) S m) _ _ = _
    unfold Tk_timesThere_L4_b
    rw [h.1]
    by_cases hc : d ≤ j
    · simp (disch := omega) only [px_lit, px_litL, px_lt, px_1, px_2, px_3, px_ck, px_rm, px_le, px_ltI, px_eq, px_ne1, nI_add, pk_mul, pk_sub, pk_div, nI_clamp, px_ui, px_ui2, px_uj1, px_uj, px_uf, px_uf2, if_pos, if_neg, if_true, if_false, ↓reduceIte]
      rw [show d = j by omega]
    · simp (disch := omega) only [px_lit, px_litL, px_lt, px_1, px_2, px_3, px_ck, px_rm, px_le, px_ltI, px_eq, px_ne1, nI_add, pk_mul, pk_sub, pk_div, nI_clamp, px_ui, px_ui2, px_uj1, px_uj, px_uf, px_uf2, if_pos, if_neg, if_true, if_false, ↓reduceIte]
      rw [h.2.2 j (by omega)]
      have b1 := px_dg_lt d n j
      have i1 := ih (j + 1) (by omega) (by omega)
      simp only [px_ct] at i1
      by_cases e : px_dg d n j = a
      · rw [if_pos e] at i1
        simp (disch := omega) only [px_lit, px_litL, px_lt, px_1, px_2, px_3, px_ck, px_rm, px_le, px_ltI, px_eq, px_ne1, nI_add, pk_mul, pk_sub, pk_div, nI_clamp, px_ui, px_ui2, px_uj1, px_uj, px_uf, px_uf2, if_pos, if_neg, if_true, if_false, ↓reduceIte]
        exact i1
      · rw [if_neg e] at i1
        simp (disch := omega) only [px_lit, px_litL, px_lt, px_1, px_2, px_3, px_ck, px_rm, px_le, px_ltI, px_eq, px_ne1, nI_add, pk_mul, pk_sub, pk_div, nI_clamp, px_ui, px_ui2, px_uj1, px_uj, px_uf, px_uf2, if_pos, if_neg, if_true, if_false, ↓reduceIte]
        exact i1
theorem px_cfa_L (h : px_tk S t d n) (hd : d ≤ 4) : ∀ (m j : Nat), j + 1 ≤ d → d - j < m → Tk_falls_L4 t S m (nI (px_fa d n j)) (nI (j + 1)) = some (nI (px_fa d n (d - 1))) := by
  intro m
  induction m with
  | zero => intro j _ h1; omega
  | succ m ih =>
    intro j hj hm
    show Tk_falls_L4_b t S (Tk_falls_L4 t S m) _ _ = _
    unfold Tk_falls_L4_b
    rw [h.1]
    by_cases hc : d ≤ j + 1
    · simp (disch := omega) only [px_lit, px_litL, px_lt, px_1, px_2, px_3, px_ck, px_rm, px_le, px_ltI, px_eq, px_ne1, nI_add, pk_mul, pk_sub, pk_div, nI_clamp, px_ui, px_ui2, px_uj1, px_uj, px_uf, px_uf2, if_pos, if_neg, if_true, if_false, ↓reduceIte]
      rw [show d - 1 = j by omega]
    · simp (disch := omega) only [px_lit, px_litL, px_lt, px_1, px_2, px_3, px_ck, px_rm, px_le, px_ltI, px_eq, px_ne1, nI_add, pk_mul, pk_sub, pk_div, nI_clamp, px_ui, px_ui2, px_uj1, px_uj, px_uf, px_uf2, if_pos, if_neg, if_true, if_false, ↓reduceIte]
      rw [show j + 1 - 1 = j by omega, h.2.2 j (by omega), h.2.2 (j + 1) (by omega)]
      have b1 := px_dg_lt d n j
      have b2 := px_dg_lt d n (j + 1)
      have i1 := ih (j + 1) (by omega) (by omega)
      simp only [px_fa] at i1
      by_cases e : px_dg d n (j + 1) < px_dg d n j
      · rw [if_pos e] at i1
        simp (disch := omega) only [px_lit, px_litL, px_lt, px_1, px_2, px_3, px_ck, px_rm, px_le, px_ltI, px_eq, px_ne1, nI_add, pk_mul, pk_sub, pk_div, nI_clamp, px_ui, px_ui2, px_uj1, px_uj, px_uf, px_uf2, if_pos, if_neg, if_true, if_false, ↓reduceIte]
        exact i1
      · rw [if_neg e] at i1
        simp (disch := omega) only [px_lit, px_litL, px_lt, px_1, px_2, px_3, px_ck, px_rm, px_le, px_ltI, px_eq, px_ne1, nI_add, pk_mul, pk_sub, pk_div, nI_clamp, px_ui, px_ui2, px_uj1, px_uj, px_uf, px_uf2, if_pos, if_neg, if_true, if_false, ↓reduceIte]
        exact i1
end PT
theorem px_told_b {k a b : Nat} (h : px_told k a b) : k ≤ 4 ∧ a ≤ 36 ∧ b ≤ 11 := by unfold px_told at h; omega
theorem px_code_k {k a b : Nat} (h : px_told k a b) : nI (px_code k a b) / nI 10000 = nI k := by
  have := px_told_b h
  rw [pk_div (by unfold px_code; omega) (by omega) (by omega)]
  congr 1; unfold px_code; omega
theorem px_code_a {k a b : Nat} (h : px_told k a b) : gm_rm (nI (px_code k a b) / nI 100) (nI 100) = nI a := by
  have := px_told_b h
  rw [pk_div (by unfold px_code; omega) (by omega) (by omega), px_rm (by unfold px_code; omega) (by omega) (by omega)]
  congr 1; unfold px_code; omega
theorem px_code_b {k a b : Nat} (h : px_told k a b) : gm_rm (nI (px_code k a b)) (nI 100) = nI b := by
  have := px_told_b h
  rw [px_rm (by unfold px_code; omega) (by omega) (by omega)]
  congr 1; unfold px_code; omega
theorem px_csays {fl d n k a b t : Nat} {S : gm_M} (hf : 10 ≤ fl) (h : px_tk S t d n) (hd : d ≤ 4) (hd0 : 0 < d) (hn : n < 2 ^ 31) (ht : px_told k a b) : Ru_sayYes fl t (nI (px_code k a b)) S = some (nI (px_yes d k a b n).toNat) := by
  unfold Ru_sayYes Ru_aOf Ru_bOf Ru_kindOf px_yes
  simp only [px_lit, px_1, px_code_k ht, px_code_a ht, px_code_b ht]
  rcases ht with ⟨rfl, ha, rfl⟩ | ⟨rfl, ha, rfl⟩ | ⟨rfl, ha, hb⟩ | ⟨rfl, ha, ha2, hb⟩ | ⟨rfl, ha, rfl⟩
  · simp (disch := omega) only [px_lit, px_litL, px_lt, px_1, px_2, px_3, px_ck, px_rm, px_le, px_ltI, px_eq, px_ne1, nI_add, pk_mul, pk_sub, pk_div, nI_clamp, px_ui, px_ui2, px_uj1, px_uj, px_uf, px_uf2, if_pos, if_neg, if_true, if_false, ↓reduceIte]
    unfold Tk_halvesApart
    have L := px_chal_L h hd fl 0 (by omega) (by omega)
    have L : Tk_halvesApart_L4 t S fl 0 0 = some (iZ (px_hs d n (d / 2))) := L
    rw [L]
    have hb := px_hs_b d n (d / 2)
    have hd2 : d / 2 ≤ 2 := by omega
    have e1 : (if (0 : Int32) ≤ iZ (px_hs d n (d / 2)) then iZ (px_hs d n (d / 2)) else 0 - iZ (px_hs d n (d / 2))) = nI (px_hs d n (d / 2)).natAbs := by
      by_cases c : (0 : Int32) ≤ iZ (px_hs d n (d / 2))
      · rw [if_pos c]
        have c2 := Int32.le_iff_toInt_le.mp c
        rw [show (0 : Int32) = nI 0 from rfl, nI_toInt (by omega), px_iZt (by omega) (by omega)] at c2
        rw [px_iZn]
        congr 1
        omega
      · rw [if_neg c]
        have c2 := Int32.lt_iff_toInt_lt.mp (Int32.not_le.mp c)
        rw [show (0 : Int32) = nI 0 from rfl, nI_toInt (by omega), px_iZt (by omega) (by omega)] at c2
        rw [show (0 : Int32) = nI 0 from rfl, px_iZn, px_iZn, px_iZs]
        congr 1
        omega
    simp only [px_1, px_lt, e1]
    by_cases c : a < (px_hs d n (d / 2)).natAbs
    · rw [decide_eq_false (by omega)]
      simp (disch := omega) only [px_lit, px_litL, px_lt, px_1, px_2, px_3, px_ck, px_rm, px_le, px_ltI, px_eq, px_ne1, nI_add, pk_mul, pk_sub, pk_div, nI_clamp, px_ui, px_ui2, px_uj1, px_uj, px_uf, px_uf2, if_pos, if_neg, if_true, if_false, ↓reduceIte]
      rfl
    · rw [decide_eq_true (by omega)]
      simp (disch := omega) only [px_lit, px_litL, px_lt, px_1, px_2, px_3, px_ck, px_rm, px_le, px_ltI, px_eq, px_ne1, nI_add, pk_mul, pk_sub, pk_div, nI_clamp, px_ui, px_ui2, px_uj1, px_uj, px_uf, px_uf2, if_pos, if_neg, if_true, if_false, ↓reduceIte]
      rfl
  · simp (disch := omega) only [px_lit, px_litL, px_lt, px_1, px_2, px_3, px_ck, px_rm, px_le, px_ltI, px_eq, px_ne1, nI_add, pk_mul, pk_sub, pk_div, nI_clamp, px_ui, px_ui2, px_uj1, px_uj, px_uf, px_uf2, if_pos, if_neg, if_true, if_false, ↓reduceIte]
    unfold Tk_unlikePairs
    have L := px_cun_L h hd fl 0 (by omega) (by omega)
    have e0 : px_un d n 0 = 0 := rfl
    rw [e0] at L
    simp only [px_lit]
    rw [L]
    have hb := px_un_b d n (d / 2)
    by_cases c : a < px_un d n (d / 2)
    · rw [decide_eq_false (by omega)]
      simp (disch := omega) only [px_lit, px_litL, px_lt, px_1, px_2, px_3, px_ck, px_rm, px_le, px_ltI, px_eq, px_ne1, nI_add, pk_mul, pk_sub, pk_div, nI_clamp, px_ui, px_ui2, px_uj1, px_uj, px_uf, px_uf2, if_pos, if_neg, if_true, if_false, ↓reduceIte]
      rfl
    · rw [decide_eq_true (by omega)]
      simp (disch := omega) only [px_lit, px_litL, px_lt, px_1, px_2, px_3, px_ck, px_rm, px_le, px_ltI, px_eq, px_ne1, nI_add, pk_mul, pk_sub, pk_div, nI_clamp, px_ui, px_ui2, px_uj1, px_uj, px_uf, px_uf2, if_pos, if_neg, if_true, if_false, ↓reduceIte]
      rfl
  · simp (disch := omega) only [px_lit, px_litL, px_lt, px_1, px_2, px_3, px_ck, px_rm, px_le, px_ltI, px_eq, px_ne1, nI_add, pk_mul, pk_sub, pk_div, nI_clamp, px_ui, px_ui2, px_uj1, px_uj, px_uf, px_uf2, if_pos, if_neg, if_true, if_false, ↓reduceIte]
    unfold Tk_timesThere
    have L := px_cct_L (a := a) (by omega) h hd fl 0 (by omega) (by omega)
    have e0 : px_ct d n a 0 = 0 := rfl
    rw [e0] at L
    simp only [px_lit]
    rw [L]
    have hb := px_ct_b d n a d
    by_cases c : px_ct d n a d = b
    · rw [decide_eq_true c]
      simp (disch := omega) only [px_lit, px_litL, px_lt, px_1, px_2, px_3, px_ck, px_rm, px_le, px_ltI, px_eq, px_ne1, nI_add, pk_mul, pk_sub, pk_div, nI_clamp, px_ui, px_ui2, px_uj1, px_uj, px_uf, px_uf2, if_pos, if_neg, if_true, if_false, ↓reduceIte]
      rfl
    · rw [decide_eq_false c]
      simp (disch := omega) only [px_lit, px_litL, px_lt, px_1, px_2, px_3, px_ck, px_rm, px_le, px_ltI, px_eq, px_ne1, nI_add, pk_mul, pk_sub, pk_div, nI_clamp, px_ui, px_ui2, px_uj1, px_uj, px_uf, px_uf2, if_pos, if_neg, if_true, if_false, ↓reduceIte]
      rfl
  · simp (disch := omega) only [px_lit, px_litL, px_lt, px_1, px_2, px_3, px_ck, px_rm, px_le, px_ltI, px_eq, px_ne1, nI_add, pk_mul, pk_sub, pk_div, nI_clamp, px_ui, px_ui2, px_uj1, px_uj, px_uf, px_uf2, if_pos, if_neg, if_true, if_false, ↓reduceIte, h.2.1]
    have hm : n % a < a := Nat.mod_lt _ (by omega)
    by_cases c : n % a = b
    · rw [decide_eq_true c]
      simp (disch := omega) only [px_lit, px_litL, px_lt, px_1, px_2, px_3, px_ck, px_rm, px_le, px_ltI, px_eq, px_ne1, nI_add, pk_mul, pk_sub, pk_div, nI_clamp, px_ui, px_ui2, px_uj1, px_uj, px_uf, px_uf2, if_pos, if_neg, if_true, if_false, ↓reduceIte]
      rfl
    · rw [decide_eq_false c]
      simp (disch := omega) only [px_lit, px_litL, px_lt, px_1, px_2, px_3, px_ck, px_rm, px_le, px_ltI, px_eq, px_ne1, nI_add, pk_mul, pk_sub, pk_div, nI_clamp, px_ui, px_ui2, px_uj1, px_uj, px_uf, px_uf2, if_pos, if_neg, if_true, if_false, ↓reduceIte]
      rfl
  · simp (disch := omega) only [px_lit, px_litL, px_lt, px_1, px_2, px_3, px_ck, px_rm, px_le, px_ltI, px_eq, px_ne1, nI_add, pk_mul, pk_sub, pk_div, nI_clamp, px_ui, px_ui2, px_uj1, px_uj, px_uf, px_uf2, if_pos, if_neg, if_true, if_false, ↓reduceIte]
    unfold Tk_falls
    have L := px_cfa_L h hd fl 0 (by omega) (by omega)
    have e0 : px_fa d n 0 = 0 := rfl
    rw [e0] at L
    simp only [px_lit]
    rw [L]
    have hb := px_fa_b d n (d - 1)
    by_cases c : a < px_fa d n (d - 1)
    · rw [decide_eq_false (by omega)]
      simp (disch := omega) only [px_lit, px_litL, px_lt, px_1, px_2, px_3, px_ck, px_rm, px_le, px_ltI, px_eq, px_ne1, nI_add, pk_mul, pk_sub, pk_div, nI_clamp, px_ui, px_ui2, px_uj1, px_uj, px_uf, px_uf2, if_pos, if_neg, if_true, if_false, ↓reduceIte]
      rfl
    · rw [decide_eq_true (by omega)]
      simp (disch := omega) only [px_lit, px_litL, px_lt, px_1, px_2, px_3, px_ck, px_rm, px_le, px_ltI, px_eq, px_ne1, nI_add, pk_mul, pk_sub, pk_div, nI_clamp, px_ui, px_ui2, px_uj1, px_uj, px_uf, px_uf2, if_pos, if_neg, if_true, if_false, ↓reduceIte]
      rfl
