def iZ (z : Int) : Int32 := Int32.ofInt z
theorem px_iZn (n : Nat) : nI n = iZ n := by unfold nI iZ; exact (Int32.ofInt_eq_ofNat).symm
theorem px_iZs (a b : Int) : iZ a - iZ b = iZ (a - b) := (Int32.ofInt_sub _ _).symm
theorem px_iZa (a b : Int) : iZ a + iZ b = iZ (a + b) := (Int32.ofInt_add _ _).symm
theorem px_iZt {z : Int} (h1 : -(2 ^ 31) ≤ z) (h2 : z < 2 ^ 31) : (iZ z).toInt = z := Int32.toInt_ofInt_of_le h1 h2
theorem px_m1 {n : Nat} (h : n + 1 < 2 ^ 31) : nI n - nI 1 = nI n + -nI 1 := Int32.sub_eq_add_neg _ _
theorem px_cmp (x y : Int64) : (lg_cmp x y < 0) = (x < y) := by
  apply propext
  have h := lg_cmp_ge x y
  constructor
  · intro a
    apply Int64.not_le.mp
    intro b
    exact absurd (h.mpr b) (Int32.not_le.mpr a)
  · intro a
    apply Int32.not_le.mp
    intro b
    exact absurd (h.mp b) (Int64.not_le.mpr a)
theorem px_cmp2 (x y : Int64) : ((0 : Int32) < lg_cmp x y) = (y < x) := by
  apply propext
  unfold lg_cmp
  by_cases h : x > y
  · rw [if_pos h]; exact ⟨fun _ => h, fun _ => by decide⟩
  · by_cases h2 : x = y
    · rw [if_neg h, if_pos h2]; exact ⟨fun a => absurd a (by decide), fun a => absurd a h⟩
    · rw [if_neg h, if_neg h2]; exact ⟨fun a => absurd a (by decide), fun a => absurd a h⟩
theorem px_L (x y : Int32) : (x.toInt64 < y.toInt64) = (x.toInt < y.toInt) := by
  apply propext
  rw [Int64.lt_iff_toInt_lt, Int32.toInt_toInt64, Int32.toInt_toInt64]
theorem px_in (x y z : Int32) {Y Z : Int64} (hY : y.toInt64 = Y) (hZ : z.toInt64 = Z) : Mo_in x.toInt64 Y Z = some (nI (decide (y.toInt ≤ x.toInt ∧ x.toInt ≤ z.toInt)).toNat) := by
  unfold Mo_in
  rw [← hY, ← hZ]
  simp only [px_cmp, px_cmp2, px_L]
  by_cases h1 : x.toInt < y.toInt
  · rw [if_pos h1, decide_eq_false (by omega)]; rfl
  · rw [if_neg h1]
    by_cases h2 : z.toInt < x.toInt
    · rw [if_pos h2, decide_eq_false (by omega)]; rfl
    · rw [if_neg h2, decide_eq_true (by omega)]; rfl
theorem px_inN {a b c : Nat} (ha : a < 2 ^ 31) (hb : b < 2 ^ 31) (hc : c < 2 ^ 31) : Mo_in (nI a).toInt64 (lN b) (lN c) = some (nI (decide (b ≤ a ∧ a ≤ c)).toNat) := by
  rw [px_in (nI a) (nI b) (nI c) (nI_l hb) (nI_l hc), nI_toInt ha, nI_toInt hb, nI_toInt hc]
  congr 4
  simp only [Int.ofNat_le]
theorem px_inM {x : Int32} {b c : Nat} (hx : x < 0) (hb : b < 2 ^ 31) (hc : c < 2 ^ 31) : Mo_in x.toInt64 (lN b) (lN c) = some (nI 0) := by
  rw [px_in x (nI b) (nI c) (nI_l hb) (nI_l hc), nI_toInt hb, nI_toInt hc]
  have : x.toInt < 0 := Int32.lt_iff_toInt_lt.mp hx
  rw [decide_eq_false (by omega)]
  rfl
def px_dg (d n k : Nat) : Nat := n / 10 ^ (d - 1 - k) % 10
theorem px_dg_lt (d n k : Nat) : px_dg d n k < 10 := Nat.mod_lt _ (by decide)
def px_hs (d n : Nat) : Nat → Int
  | 0 => 0
  | j + 1 => px_hs d n j + ((px_dg d n j : Int) - (px_dg d n (d - 1 - j) : Int))
def px_un (d n : Nat) : Nat → Nat
  | 0 => 0
  | j + 1 => px_un d n j + (if px_dg d n j = px_dg d n (d - 1 - j) then 0 else 1)
def px_ct (d n a : Nat) : Nat → Nat
  | 0 => 0
  | j + 1 => px_ct d n a j + (if px_dg d n j = a then 1 else 0)
def px_fa (d n : Nat) : Nat → Nat
  | 0 => 0
  | j + 1 => px_fa d n j + (if px_dg d n (j + 1) < px_dg d n j then 1 else 0)
theorem px_hs_b (d n : Nat) : ∀ j : Nat, -(9 * j : Int) ≤ px_hs d n j ∧ px_hs d n j ≤ 9 * j
  | 0 => by simp [px_hs]
  | j + 1 => by
    have := px_hs_b d n j
    have := px_dg_lt d n j
    have := px_dg_lt d n (d - 1 - j)
    simp only [px_hs]
    omega
theorem px_un_b (d n : Nat) : ∀ j, px_un d n j ≤ j
  | 0 => by simp [px_un]
  | j + 1 => by have := px_un_b d n j; simp only [px_un]; split <;> omega
theorem px_ct_b (d n a : Nat) : ∀ j, px_ct d n a j ≤ j
  | 0 => by simp [px_ct]
  | j + 1 => by have := px_ct_b d n a j; simp only [px_ct]; split <;> omega
theorem px_fa_b (d n : Nat) : ∀ j, px_fa d n j ≤ j
  | 0 => by simp [px_fa]
  | j + 1 => by have := px_fa_b d n j; simp only [px_fa]; split <;> omega
def px_yes (d k a b n : Nat) : Bool :=
  if k = 0 then decide ((px_hs d n (d / 2)).natAbs ≤ a)
  else if k = 1 then decide (px_un d n (d / 2) ≤ a)
  else if k = 2 then decide (px_ct d n a d = b)
  else if k = 3 then decide (n % a = b)
  else decide (px_fa d n (d - 1) ≤ a)
theorem px_fig_L (k : Nat) : ∀ (m j v : Nat), k ≤ j → j < 100 → v < 2 ^ 31 → j - k < m → Mo_figureOf_L10 (nI k) m (nI v) (nI j) = some (nI (v / 10 ^ (j - k))) := by
  intro m
  induction m with
  | zero => intro j v _ _ _ h; omega
  | succ m ih =>
    intro j v hk hj hv hm
    show Mo_figureOf_L10_b (nI k) (Mo_figureOf_L10 (nI k) m) _ _ = _
    unfold Mo_figureOf_L10_b
    by_cases hc : j ≤ k
    · simp (disch := omega) only [px_lit, px_litL, px_lt, px_1, px_2, px_3, px_ck, px_rm, px_le, px_ltI, px_eq, px_ne1, nI_add, pk_mul, pk_sub, pk_div, nI_clamp, px_ui, px_ui2, px_uj1, px_uj, px_uf, px_uf2, if_pos, if_neg, if_true, if_false, ↓reduceIte]
      rw [show j - k = 0 by omega]
      simp
    · have e1 : nI j + -1 = nI (j - 1) := by
        obtain ⟨i, rfl⟩ : ∃ i, j = i + 1 := ⟨j - 1, by omega⟩
        exact pk_m1 i
      simp only [px_lt]
      rw [e1]
      simp (disch := omega) only [px_lit, px_litL, px_lt, px_1, px_2, px_3, px_ck, px_rm, px_le, px_ltI, px_eq, px_ne1, nI_add, pk_mul, pk_sub, pk_div, nI_clamp, px_ui, px_ui2, px_uj1, px_uj, px_uf, px_uf2, if_pos, if_neg, if_true, if_false, ↓reduceIte]
      have hv2 : v / 10 ≤ v := Nat.div_le_self v 10
      rw [ih (j - 1) (v / 10) (by omega) (by omega) (by omega) (by omega), Nat.div_div_eq_div_mul, show j - k = (j - 1 - k) + 1 by omega, Nat.pow_succ, Nat.mul_comm]
theorem px_fig (fl d n k : Nat) (S : gm_M) (hf : 10 ≤ fl) (h : S.1 0 0 = nI d) (hd : d ≤ 4) (hk : k < d) (hn : n < 2 ^ 31) : Mo_figureOf fl (nI n) (nI k) S = some (nI (px_dg d n k)) := by
  unfold Mo_figureOf
  rw [h]
  simp (disch := omega) only [px_lit, px_litL, px_lt, px_1, px_2, px_3, px_ck, px_rm, px_le, px_ltI, px_eq, px_ne1, nI_add, pk_mul, pk_sub, pk_div, nI_clamp, px_ui, px_ui2, px_uj1, px_uj, px_uf, px_uf2, if_pos, if_neg, if_true, if_false, ↓reduceIte]
  rw [px_fig_L k fl (d - 1) n (by omega) (by omega) hn (by omega)]
  have hv2 : n / 10 ^ (d - 1 - k) ≤ n := Nat.div_le_self _ _
  simp (disch := omega) only [px_lit, px_litL, px_lt, px_1, px_2, px_3, px_ck, px_rm, px_le, px_ltI, px_eq, px_ne1, nI_add, pk_mul, pk_sub, pk_div, nI_clamp, px_ui, px_ui2, px_uj1, px_uj, px_uf, px_uf2, if_pos, if_neg, if_true, if_false, ↓reduceIte]
  rfl
section PY
variable {fl d n : Nat} {S : gm_M}
theorem px_mhal_L (hf : 10 ≤ fl) (h : S.1 0 0 = nI d) (hd : d ≤ 4) (hn : n < 2 ^ 31) : ∀ (m j : Nat), j ≤ d / 2 → d / 2 - j < m → Mo_halves_L5 fl (nI n) S m (iZ (px_hs d n j)) (nI j) = some (iZ (px_hs d n (d / 2))) := by
  intro m
  induction m with
  | zero => intro j _ h1; omega
  | succ m ih =>
    intro j hj hm
    show Mo_halves_L5_b fl (nI n) S (Mo_halves_L5 fl (nI n) S m) _ _ = _
    unfold Mo_halves_L5_b
    rw [h]
    by_cases hc : d / 2 ≤ j
    · simp (disch := omega) only [px_lit, px_litL, px_lt, px_1, px_2, px_3, px_ck, px_rm, px_le, px_ltI, px_eq, px_ne1, nI_add, pk_mul, pk_sub, pk_div, nI_clamp, px_ui, px_ui2, px_uj1, px_uj, px_uf, px_uf2, if_pos, if_neg, if_true, if_false, ↓reduceIte]
      rw [show d / 2 = j by omega]
    · simp (disch := omega) only [px_lit, px_litL, px_lt, px_1, px_2, px_3, px_ck, px_rm, px_le, px_ltI, px_eq, px_ne1, nI_add, pk_mul, pk_sub, pk_div, nI_clamp, px_ui, px_ui2, px_uj1, px_uj, px_uf, px_uf2, if_pos, if_neg, if_true, if_false, ↓reduceIte]
      rw [px_fig fl d n j S hf h hd (by omega) hn]
      simp (disch := omega) only [px_lit, px_litL, px_lt, px_1, px_2, px_3, px_ck, px_rm, px_le, px_ltI, px_eq, px_ne1, nI_add, pk_mul, pk_sub, pk_div, nI_clamp, px_ui, px_ui2, px_uj1, px_uj, px_uf, px_uf2, if_pos, if_neg, if_true, if_false, ↓reduceIte]
      rw [px_fig fl d n (d - 1 - j) S hf h hd (by omega) hn]
      simp (disch := omega) only [px_lit, px_litL, px_lt, px_1, px_2, px_3, px_ck, px_rm, px_le, px_ltI, px_eq, px_ne1, nI_add, pk_mul, pk_sub, pk_div, nI_clamp, px_ui, px_ui2, px_uj1, px_uj, px_uf, px_uf2, if_pos, if_neg, if_true, if_false, ↓reduceIte]
      rw [px_iZn (px_dg d n j), px_iZn (px_dg d n (d - 1 - j)), px_iZs, px_iZa]
      exact ih (j + 1) (by omega) (by omega)
theorem px_mmir_L (hf : 10 ≤ fl) (h : S.1 0 0 = nI d) (hd : d ≤ 4) (hn : n < 2 ^ 31) : ∀ (m j : Nat), j ≤ d / 2 → d / 2 - j < m → Mo_mirror_L5 fl (nI n) S m (nI (px_un d n j)) (nI j) = some (nI (px_un d n (d / 2))) := by
  intro m
  induction m with
  | zero => intro j _ h1; omega
  | succ m ih =>
    intro j hj hm
    show Mo_mirror_L5_b fl (nI n) S (Mo_mirror_L5 fl (nI n) S m) _ _ = _
    unfold Mo_mirror_L5_b
    rw [h]
    by_cases hc : d / 2 ≤ j
    · simp (disch := omega) only [px_lit, px_litL, px_lt, px_1, px_2, px_3, px_ck, px_rm, px_le, px_ltI, px_eq, px_ne1, nI_add, pk_mul, pk_sub, pk_div, nI_clamp, px_ui, px_ui2, px_uj1, px_uj, px_uf, px_uf2, if_pos, if_neg, if_true, if_false, ↓reduceIte]
      rw [show d / 2 = j by omega]
    · simp (disch := omega) only [px_lit, px_litL, px_lt, px_1, px_2, px_3, px_ck, px_rm, px_le, px_ltI, px_eq, px_ne1, nI_add, pk_mul, pk_sub, pk_div, nI_clamp, px_ui, px_ui2, px_uj1, px_uj, px_uf, px_uf2, if_pos, if_neg, if_true, if_false, ↓reduceIte]
      rw [px_fig fl d n j S hf h hd (by omega) hn]
      simp (disch := omega) only [px_lit, px_litL, px_lt, px_1, px_2, px_3, px_ck, px_rm, px_le, px_ltI, px_eq, px_ne1, nI_add, pk_mul, pk_sub, pk_div, nI_clamp, px_ui, px_ui2, px_uj1, px_uj, px_uf, px_uf2, if_pos, if_neg, if_true, if_false, ↓reduceIte]
      rw [px_fig fl d n (d - 1 - j) S hf h hd (by omega) hn]
      have b1 := px_dg_lt d n j
      have b2 := px_dg_lt d n (d - 1 - j)
      have i1 := ih (j + 1) (by omega) (by omega)
      simp only [px_un] at i1
      by_cases e : px_dg d n j = px_dg d n (d - 1 - j)
      · rw [if_pos e] at i1
        simp (disch := omega) only [px_lit, px_litL, px_lt, px_1, px_2, px_3, px_ck, px_rm, px_le, px_ltI, px_eq, px_ne1, nI_add, pk_mul, pk_sub, pk_div, nI_clamp, px_ui, px_ui2, px_uj1, px_uj, px_uf, px_uf2, if_pos, if_neg, if_true, if_false, ↓reduceIte]
        exact i1
      · rw [if_neg e] at i1
        simp (disch := omega) only [px_lit, px_litL, px_lt, px_1, px_2, px_3, px_ck, px_rm, px_le, px_ltI, px_eq, px_ne1, nI_add, pk_mul, pk_sub, pk_div, nI_clamp, px_ui, px_ui2, px_uj1, px_uj, px_uf, px_uf2, if_pos, if_neg, if_true, if_false, ↓reduceIte]
        exact i1
theorem px_mct_L {a : Nat} (ha : a < 2 ^ 31) (hf : 10 ≤ fl) (h : S.1 0 0 = nI d) (hd : d ≤ 4) (hn : n < 2 ^ 31) : ∀ (m j : Nat), j ≤ d → d - j < m → Mo_counts_L6 fl (nI n) (nI a) S m (nI (px_ct d n a j)) (nI j) = some (nI (px_ct d n a d)) := by
  intro m
  induction m with
  | zero => intro j _ h1; omega
  | succ m ih =>
    intro j hj hm
    show Mo_counts_L6_b fl (nI n) (nI a) S (Mo_counts_L6 fl (nI n) (nI a) S m) _ _ = _
    unfold Mo_counts_L6_b
    rw [h]
    by_cases hc : d ≤ j
    · simp (disch := omega) only [px_lit, px_litL, px_lt, px_1, px_2, px_3, px_ck, px_rm, px_le, px_ltI, px_eq, px_ne1, nI_add, pk_mul, pk_sub, pk_div, nI_clamp, px_ui, px_ui2, px_uj1, px_uj, px_uf, px_uf2, if_pos, if_neg, if_true, if_false, ↓reduceIte]
      rw [show d = j by omega]
    · simp (disch := omega) only [px_lit, px_litL, px_lt, px_1, px_2, px_3, px_ck, px_rm, px_le, px_ltI, px_eq, px_ne1, nI_add, pk_mul, pk_sub, pk_div, nI_clamp, px_ui, px_ui2, px_uj1, px_uj, px_uf, px_uf2, if_pos, if_neg, if_true, if_false, ↓reduceIte]
      rw [px_fig fl d n j S hf h hd (by omega) hn]
      have b1 := px_dg_lt d n j
      have i1 := ih (j + 1) (by omega) (by omega)
      simp only [px_ct] at i1
      by_cases e : px_dg d n j = a
      · rw [if_pos e] at i1
        simp (disch := omega) only [px_lit, px_litL, px_lt, px_1, px_2, px_3, px_ck, px_rm, px_le, px_ltI, px_eq, px_ne1, nI_add, pk_mul, pk_sub, pk_div, nI_clamp, px_ui, px_ui2, px_uj1, px_uj, px_uf, px_uf2, if_pos, if_neg, if_true, if_false, ↓reduceIte]
        exact i1
      · rw [if_neg e] at i1
        simp (disch := omega) only [px_lit, px_litL, px_lt, px_1, px_2, px_3, px_ck, px_rm, px_le, px_ltI, px_eq, px_ne1, nI_add, pk_mul, pk_sub, pk_div, nI_clamp, px_ui, px_ui2, px_uj1, px_uj, px_uf, px_uf2, if_pos, if_neg, if_true, if_false, ↓reduceIte]
        exact i1
theorem px_mfa_L (hf : 10 ≤ fl) (h : S.1 0 0 = nI d) (hd : d ≤ 4) (hn : n < 2 ^ 31) : ∀ (m j : Nat), j + 1 ≤ d → d - j < m → Mo_rises_L5 fl (nI n) S m (nI (px_fa d n j)) (nI (j + 1)) = some (nI (px_fa d n (d - 1))) := by
  intro m
  induction m with
  | zero => intro j _ h1; omega
  | succ m ih =>
    intro j hj hm
    show Mo_rises_L5_b fl (nI n) S (Mo_rises_L5 fl (nI n) S m) _ _ = _
    unfold Mo_rises_L5_b
    rw [h]
    by_cases hc : d ≤ j + 1
    · simp (disch := omega) only [px_lit, px_litL, px_lt, px_1, px_2, px_3, px_ck, px_rm, px_le, px_ltI, px_eq, px_ne1, nI_add, pk_mul, pk_sub, pk_div, nI_clamp, px_ui, px_ui2, px_uj1, px_uj, px_uf, px_uf2, if_pos, if_neg, if_true, if_false, ↓reduceIte]
      rw [show d - 1 = j by omega]
    · simp (disch := omega) only [px_lit, px_litL, px_lt, px_1, px_2, px_3, px_ck, px_rm, px_le, px_ltI, px_eq, px_ne1, nI_add, pk_mul, pk_sub, pk_div, nI_clamp, px_ui, px_ui2, px_uj1, px_uj, px_uf, px_uf2, if_pos, if_neg, if_true, if_false, ↓reduceIte]
      rw [px_fig fl d n (j + 1) S hf h hd (by omega) hn]
      simp (disch := omega) only [px_lit, px_litL, px_lt, px_1, px_2, px_3, px_ck, px_rm, px_le, px_ltI, px_eq, px_ne1, nI_add, pk_mul, pk_sub, pk_div, nI_clamp, px_ui, px_ui2, px_uj1, px_uj, px_uf, px_uf2, if_pos, if_neg, if_true, if_false, ↓reduceIte]
      rw [show j + 1 - 1 = j by omega, px_fig fl d n j S hf h hd (by omega) hn]
      have b1 := px_dg_lt d n j
      have b2 := px_dg_lt d n (j + 1)
      have i1 := ih (j + 1) (by omega) (by omega)
      simp only [px_fa] at i1
      by_cases e : px_dg d n (j + 1) < px_dg d n j
      · rw [if_pos e] at i1
        simp (disch := omega) only [px_lit, px_litL, px_lt, px_1, px_2, px_3, px_ck, px_rm, px_le, px_ltI, px_eq, px_ne1, nI_add, pk_mul, pk_sub, pk_div, nI_clamp, px_ui, px_ui2, px_uj1, px_uj, px_uf, px_uf2, if_pos, if_neg, if_true, if_false, ↓reduceIte]
        exact i1
      · rw [if_neg e] at i1
        simp (disch := omega) only [px_lit, px_litL, px_lt, px_1, px_2, px_3, px_ck, px_rm, px_le, px_ltI, px_eq, px_ne1, nI_add, pk_mul, pk_sub, pk_div, nI_clamp, px_ui, px_ui2, px_uj1, px_uj, px_uf, px_uf2, if_pos, if_neg, if_true, if_false, ↓reduceIte]
        exact i1
end PY
def px_told (k a b : Nat) : Prop := (k = 0 ∧ a ≤ 36 ∧ b = 0) ∨ (k = 1 ∧ a ≤ 2 ∧ b = 0) ∨ (k = 2 ∧ a ≤ 9 ∧ b ≤ 4) ∨ (k = 3 ∧ 2 ≤ a ∧ a ≤ 12 ∧ b < a) ∨ (k = 4 ∧ a ≤ 3 ∧ b = 0)
theorem px_abs {s : Int} {a : Nat} : (s.natAbs ≤ a) ↔ (-(a : Int) ≤ s ∧ s ≤ a) := by omega
theorem px_msays {fl d n k a b : Nat} {S : gm_M} (hf : 10 ≤ fl) (h : S.1 0 0 = nI d) (hd : d ≤ 4) (hd0 : 0 < d) (hn : n < 2 ^ 31) (ht : px_told k a b) : Mo_saysYes fl (nI k) (nI a) (nI b) (nI n) S = some (nI (px_yes d k a b n).toNat) := by
  unfold Mo_saysYes px_yes
  rcases ht with ⟨rfl, ha, rfl⟩ | ⟨rfl, ha, rfl⟩ | ⟨rfl, ha, hb⟩ | ⟨rfl, ha, ha2, hb⟩ | ⟨rfl, ha, rfl⟩
  · simp (disch := omega) only [px_lit, px_litL, px_lt, px_1, px_2, px_3, px_ck, px_rm, px_le, px_ltI, px_eq, px_ne1, nI_add, pk_mul, pk_sub, pk_div, nI_clamp, px_ui, px_ui2, px_uj1, px_uj, px_uf, px_uf2, if_pos, if_neg, if_true, if_false, ↓reduceIte]
    unfold Mo_halves
    have L := px_mhal_L hf h hd hn fl 0 (by omega) (by omega)
    have e0 : iZ (px_hs d n 0) = nI 0 := rfl
    rw [e0] at L
    simp only [px_lit]
    rw [L]
    have hb := px_hs_b d n (d / 2)
    have hd2 : d / 2 ≤ 2 := by omega
    simp only [px_1]
    rw [px_in (iZ (px_hs d n (d / 2))) (nI 0 - nI a) (nI a) rfl rfl, px_iZt (by omega) (by omega), nI_toInt (show a < 2 ^ 31 by omega), pk_sub_toInt (by omega) (by omega)]
    simp only [px_1, px_nb, if_true]
    rw [show decide ((0 : Nat) - (a : Int) ≤ px_hs d n (d / 2) ∧ px_hs d n (d / 2) ≤ a) = decide ((px_hs d n (d / 2)).natAbs ≤ a) from decide_eq_decide.mpr (by omega)]
  · simp (disch := omega) only [px_lit, px_litL, px_lt, px_1, px_2, px_3, px_ck, px_rm, px_le, px_ltI, px_eq, px_ne1, nI_add, pk_mul, pk_sub, pk_div, nI_clamp, px_ui, px_ui2, px_uj1, px_uj, px_uf, px_uf2, if_pos, if_neg, if_true, if_false, ↓reduceIte]
    unfold Mo_mirror
    have L := px_mmir_L hf h hd hn fl 0 (by omega) (by omega)
    have e0 : px_un d n 0 = 0 := rfl
    rw [e0] at L
    simp only [px_lit]
    rw [L]
    have hb := px_un_b d n (d / 2)
    by_cases c : a < px_un d n (d / 2)
    · rw [decide_eq_false (by omega)]
      simp (disch := omega) only [px_lit, px_litL, px_lt, px_1, px_2, px_3, px_ck, px_rm, px_le, px_ltI, px_eq, px_ne1, nI_add, pk_mul, pk_sub, pk_div, nI_clamp, px_ui, px_ui2, px_uj1, px_uj, px_uf, px_uf2, if_pos, if_neg, if_true, if_false, ↓reduceIte]
      rfl
    · rw [decide_eq_true (by omega)]
      simp (disch := omega) only [px_lit, px_litL, px_lt, px_1, px_2, px_3, px_ck, px_rm, px_le, px_ltI, px_eq, px_ne1, nI_add, pk_mul, pk_sub, pk_div, nI_clamp, px_ui, px_ui2, px_uj1, px_uj, px_uf, px_uf2, if_pos, if_neg, if_true, if_false, ↓reduceIte]
      rfl
  · simp (disch := omega) only [px_lit, px_litL, px_lt, px_1, px_2, px_3, px_ck, px_rm, px_le, px_ltI, px_eq, px_ne1, nI_add, pk_mul, pk_sub, pk_div, nI_clamp, px_ui, px_ui2, px_uj1, px_uj, px_uf, px_uf2, if_pos, if_neg, if_true, if_false, ↓reduceIte]
    unfold Mo_counts
    have L := px_mct_L (a := a) (by omega) hf h hd hn fl 0 (by omega) (by omega)
    have e0 : px_ct d n a 0 = 0 := rfl
    rw [e0] at L
    simp only [px_lit]
    rw [L]
    have hb := px_ct_b d n a d
    by_cases c : px_ct d n a d = b
    · rw [decide_eq_true c]
      simp (disch := omega) only [px_lit, px_litL, px_lt, px_1, px_2, px_3, px_ck, px_rm, px_le, px_ltI, px_eq, px_ne1, nI_add, pk_mul, pk_sub, pk_div, nI_clamp, px_ui, px_ui2, px_uj1, px_uj, px_uf, px_uf2, if_pos, if_neg, if_true, if_false, ↓reduceIte]
      rfl
    · rw [decide_eq_false c]
      simp (disch := omega) only [px_lit, px_litL, px_lt, px_1, px_2, px_3, px_ck, px_rm, px_le, px_ltI, px_eq, px_ne1, nI_add, pk_mul, pk_sub, pk_div, nI_clamp, px_ui, px_ui2, px_uj1, px_uj, px_uf, px_uf2, if_pos, if_neg, if_true, if_false, ↓reduceIte]
      rfl
  · simp (disch := omega) only [px_lit, px_litL, px_lt, px_1, px_2, px_3, px_ck, px_rm, px_le, px_ltI, px_eq, px_ne1, nI_add, pk_mul, pk_sub, pk_div, nI_clamp, px_ui, px_ui2, px_uj1, px_uj, px_uf, px_uf2, if_pos, if_neg, if_true, if_false, ↓reduceIte]
    have hm : n % a < a := Nat.mod_lt _ (by omega)
    by_cases c : n % a = b
    · rw [decide_eq_true c]
      simp (disch := omega) only [px_lit, px_litL, px_lt, px_1, px_2, px_3, px_ck, px_rm, px_le, px_ltI, px_eq, px_ne1, nI_add, pk_mul, pk_sub, pk_div, nI_clamp, px_ui, px_ui2, px_uj1, px_uj, px_uf, px_uf2, if_pos, if_neg, if_true, if_false, ↓reduceIte]
      rfl
    · rw [decide_eq_false c]
      simp (disch := omega) only [px_lit, px_litL, px_lt, px_1, px_2, px_3, px_ck, px_rm, px_le, px_ltI, px_eq, px_ne1, nI_add, pk_mul, pk_sub, pk_div, nI_clamp, px_ui, px_ui2, px_uj1, px_uj, px_uf, px_uf2, if_pos, if_neg, if_true, if_false, ↓reduceIte]
      rfl
  · simp (disch := omega) only [px_lit, px_litL, px_lt, px_1, px_2, px_3, px_ck, px_rm, px_le, px_ltI, px_eq, px_ne1, nI_add, pk_mul, pk_sub, pk_div, nI_clamp, px_ui, px_ui2, px_uj1, px_uj, px_uf, px_uf2, if_pos, if_neg, if_true, if_false, ↓reduceIte]
    unfold Mo_rises
    have L := px_mfa_L hf h hd hn fl 0 (by omega) (by omega)
    have e0 : px_fa d n 0 = 0 := rfl
    rw [e0] at L
    simp only [px_lit]
    rw [L]
    have hb := px_fa_b d n (d - 1)
    by_cases c : a < px_fa d n (d - 1)
    · rw [decide_eq_false (by omega)]
      simp (disch := omega) only [px_lit, px_litL, px_lt, px_1, px_2, px_3, px_ck, px_rm, px_le, px_ltI, px_eq, px_ne1, nI_add, pk_mul, pk_sub, pk_div, nI_clamp, px_ui, px_ui2, px_uj1, px_uj, px_uf, px_uf2, if_pos, if_neg, if_true, if_false, ↓reduceIte]
      rfl
    · rw [decide_eq_true (by omega)]
      simp (disch := omega) only [px_lit, px_litL, px_lt, px_1, px_2, px_3, px_ck, px_rm, px_le, px_ltI, px_eq, px_ne1, nI_add, pk_mul, pk_sub, pk_div, nI_clamp, px_ui, px_ui2, px_uj1, px_uj, px_uf, px_uf2, if_pos, if_neg, if_true, if_false, ↓reduceIte]
      rfl
