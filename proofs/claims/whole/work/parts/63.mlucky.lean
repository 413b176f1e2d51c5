def px_MT (M : gm_M) (d nr nn np : Nat) (kd g : Nat → Nat) : Prop := M.1 0 0 = nI d ∧ M.1 0 1 = nI (px_num d - 1) ∧ M.1 0 2 = nI nr ∧ M.1 0 3 = nI nn ∧ M.1 0 4 = nI np ∧ (∀ j, j < 42 → M.1 2 j = nI (g j)) ∧ (∀ p, p < np → M.1 1 p = nI (kd p))
def px_V0 (d nr nn np : Nat) (kd : Nat → Nat) : Prop := (d = 0 ∨ d = 2 ∨ d = 3 ∨ d = 4) ∧ nr ≤ 4 ∧ nn ≤ 4 ∧ np ≤ 5 ∧ (d = 0 → nr = 0 ∧ nn = 0 ∧ np = 0) ∧ (∀ p, p < np → kd p ≤ 3)
def px_V1 (d nr nn : Nat) (g : Nat → Nat) : Prop := g 0 ≤ 1 ∧ (∀ r, r < nr → px_told (g (1 + r)) (g (5 + r)) (g (9 + r))) ∧ (∀ r, r < nn → g (13 + r) < px_num d ∧ g (17 + r) ≤ 200) ∧ (∀ j, 21 ≤ j → j < 41 → g j ≤ 9999) ∧ (g 41 ≤ 9060 ∧ ∀ p, p < 5 → g (26 + p) ≤ g (21 + p))
def px_ry (d : Nat) (g : Nat → Nat) (r n : Nat) : Bool := px_yes d (g (1 + r)) (g (5 + r)) (g (9 + r)) n
def px_yc (d : Nat) (g : Nat → Nat) (but n : Nat) : Nat → Nat
  | 0 => 0
  | r + 1 => px_yc d g but n r + (if r = but then 0 else (px_ry d g r n).toNat)
def px_mc (but : Nat) : Nat → Nat
  | 0 => 0
  | r + 1 => px_mc but r + (if r = but then 0 else 1)
def px_lb (d nr : Nat) (g : Nat → Nat) (but n : Nat) : Bool := decide (0 < px_mc but nr) && (if g 0 = 1 then decide (0 < px_yc d g but n nr) else decide (px_yc d g but n nr = px_mc but nr))
def px_lk (d nr : Nat) (g : Nat → Nat) (n : Nat) : Bool := px_lb d nr g 99 n
theorem px_yc_b (d : Nat) (g : Nat → Nat) (but n : Nat) : ∀ r, px_yc d g but n r ≤ px_mc but r
  | 0 => Nat.le_refl _
  | r + 1 => by
    have := px_yc_b d g but n r
    have := px_b1 (px_ry d g r n)
    simp only [px_yc, px_mc]
    split <;> omega
theorem px_mc_b (but : Nat) : ∀ r, px_mc but r ≤ r
  | 0 => Nat.le_refl _
  | r + 1 => by have := px_mc_b but r; simp only [px_mc]; split <;> omega
section PM
variable {fl d nr nn np : Nat} {kd g : Nat → Nat} {M : gm_M}
theorem px_myes {r n : Nat} (hf : 10 ≤ fl) (hM : px_MT M d nr nn np kd g) (h0 : px_V0 d nr nn np kd) (h1 : px_V1 d nr nn g) (hr : r < nr) (hn : n < 2 ^ 31) : Mo_isYes fl (nI r) (nI n) M = some (nI (px_ry d g r n).toNat) := by
  obtain ⟨a0, a1, a2, a3, a4, a5, a6⟩ := hM
  obtain ⟨b0, b1, b2, b3, b4, b5⟩ := h0
  have hd0 : 0 < d := by rcases Nat.eq_zero_or_pos d with h | h; (have := b4 h; omega); exact h
  unfold Mo_isYes
  simp (disch := omega) only [px_lit, px_litL, px_lt, px_1, px_2, px_3, px_ck, px_rm, px_le, px_ltI, px_eq, px_ne1, nI_add, pk_mul, pk_sub, pk_div, nI_clamp, px_ui, px_ui2, px_uj1, px_uj, px_uf, px_uf2, if_pos, if_neg, if_true, if_false, ↓reduceIte]
  rw [a5 (1 + r) (by omega), a5 (5 + r) (by omega), a5 (9 + r) (by omega), px_msays hf a0 (by omega) hd0 hn (h1.2.1 r hr)]
  simp only [px_1, px_nb, if_true]
  rfl
theorem px_mlb_L {n but : Nat} {a0 : Int32} (hf : 10 ≤ fl) (hM : px_MT M d nr nn np kd g) (h0 : px_V0 d nr nn np kd) (h1 : px_V1 d nr nn g) (hn : n < 2 ^ 31) (hb : ∀ j, j < 4 → (nI j = a0) = (j = but)) : ∀ (m j : Nat), j ≤ nr → nr - j < m → Mo_isLuckyBut_L8 fl a0 (nI n) M m (nI (px_yc d g but n j)) (nI (px_mc but j)) (nI j) = some (nI (px_yc d g but n nr), nI (px_mc but nr)) := by
  have hnr := h0.2.1
  intro m
  induction m with
  | zero => intro j _ h; omega
  | succ m ih =>
    intro j hj hm
    show Mo_isLuckyBut_L8_b fl a0 (nI n) M (Mo_isLuckyBut_L8 fl a0 (nI n) M m) _ _ _ = _
    unfold Mo_isLuckyBut_L8_b
    rw [hM.2.2.1]
    by_cases hc : nr ≤ j
    · simp (disch := omega) only [px_lit, px_litL, px_lt, px_1, px_2, px_3, px_ck, px_rm, px_le, px_ltI, px_eq, px_ne1, nI_add, pk_mul, pk_sub, pk_div, nI_clamp, px_ui, px_ui2, px_uj1, px_uj, px_uf, px_uf2, if_pos, if_neg, if_true, if_false, ↓reduceIte]
      rw [show nr = j by omega]
    · have i1 := ih (j + 1) (by omega) (by omega)
      have y1 := px_yc_b d g but n j
      have m1 := px_mc_b but j
      simp only [px_yc, px_mc] at i1
      by_cases e : j = but
      · rw [if_pos e, if_pos e] at i1
        have hbt : (nI j = a0) = True := by rw [hb j (by omega)]; exact eq_true e
        simp (disch := omega) only [px_lit, px_litL, px_lt, px_1, px_2, px_3, px_ck, px_rm, px_le, px_ltI, px_eq, px_ne1, nI_add, pk_mul, pk_sub, pk_div, nI_clamp, px_ui, px_ui2, px_uj1, px_uj, px_uf, px_uf2, if_pos, if_neg, if_true, if_false, ↓reduceIte, hbt]
        exact i1
      · rw [if_neg e, if_neg e] at i1
        have y := px_myes (r := j) hf hM h0 h1 (by omega) hn
        have hbt : (nI j = a0) = False := by rw [hb j (by omega)]; exact eq_false e
        simp (disch := omega) only [px_lit, px_litL, px_lt, px_1, px_2, px_3, px_ck, px_rm, px_le, px_ltI, px_eq, px_ne1, nI_add, pk_mul, pk_sub, pk_div, nI_clamp, px_ui, px_ui2, px_uj1, px_uj, px_uf, px_uf2, if_pos, if_neg, if_true, if_false, ↓reduceIte, hbt]
        rw [y]
        simp only [px_1]
        generalize px_ry d g j n = B at i1 ⊢
        cases B
        · simp only [Bool.toNat_false] at i1 ⊢
          simp (disch := omega) only [px_lit, px_litL, px_lt, px_1, px_2, px_3, px_ck, px_rm, px_le, px_ltI, px_eq, px_ne1, nI_add, pk_mul, pk_sub, pk_div, nI_clamp, px_ui, px_ui2, px_uj1, px_uj, px_uf, px_uf2, if_pos, if_neg, if_true, if_false, ↓reduceIte]
          exact i1
        · simp only [Bool.toNat_true] at i1 ⊢
          simp (disch := omega) only [px_lit, px_litL, px_lt, px_1, px_2, px_3, px_ck, px_rm, px_le, px_ltI, px_eq, px_ne1, nI_add, pk_mul, pk_sub, pk_div, nI_clamp, px_ui, px_ui2, px_uj1, px_uj, px_uf, px_uf2, if_pos, if_neg, if_true, if_false, ↓reduceIte]
          exact i1
theorem px_mlb {n but : Nat} {a0 : Int32} (hf : 10 ≤ fl) (hM : px_MT M d nr nn np kd g) (h0 : px_V0 d nr nn np kd) (h1 : px_V1 d nr nn g) (hn : n < 2 ^ 31) (hb : ∀ j, j < 4 → (nI j = a0) = (j = but)) : Mo_isLuckyBut fl a0 (nI n) M = some (nI (px_lb d nr g but n).toNat) := by
  have hnr := h0.2.1
  have L := px_mlb_L hf hM h0 h1 hn hb fl 0 (by omega) (by omega)
  have L : Mo_isLuckyBut_L8 fl a0 (nI n) M fl 0 0 0 = some (nI (px_yc d g but n nr), nI (px_mc but nr)) := L
  unfold Mo_isLuckyBut px_lb
  rw [L]
  have y1 := px_yc_b d g but n nr
  have m1 := px_mc_b but nr
  have g0 := h1.1
  by_cases c : 0 < px_mc but nr
  · rw [decide_eq_true c]
    simp (disch := omega) only [px_lit, px_litL, px_lt, px_1, px_2, px_3, px_ck, px_rm, px_le, px_ltI, px_eq, px_ne1, nI_add, pk_mul, pk_sub, pk_div, nI_clamp, px_ui, px_ui2, px_uj1, px_uj, px_uf, px_uf2, if_pos, if_neg, if_true, if_false, ↓reduceIte]
    rw [hM.2.2.2.2.2.1 0 (by omega)]
    by_cases c2 : g 0 = 1
    · by_cases c3 : 0 < px_yc d g but n nr
      · simp (disch := omega) only [px_lit, px_litL, px_lt, px_1, px_2, px_3, px_ck, px_rm, px_le, px_ltI, px_eq, px_ne1, nI_add, pk_mul, pk_sub, pk_div, nI_clamp, px_ui, px_ui2, px_uj1, px_uj, px_uf, px_uf2, if_pos, if_neg, if_true, if_false, ↓reduceIte, decide_true, Bool.and_true, Bool.true_and, c3, c2]
        rfl
      · simp (disch := omega) only [px_lit, px_litL, px_lt, px_1, px_2, px_3, px_ck, px_rm, px_le, px_ltI, px_eq, px_ne1, nI_add, pk_mul, pk_sub, pk_div, nI_clamp, px_ui, px_ui2, px_uj1, px_uj, px_uf, px_uf2, if_pos, if_neg, if_true, if_false, ↓reduceIte, decide_false, Bool.and_false, Bool.true_and, c3, c2]
        rfl
    · by_cases c3 : px_yc d g but n nr = px_mc but nr
      · simp (disch := omega) only [px_lit, px_litL, px_lt, px_1, px_2, px_3, px_ck, px_rm, px_le, px_ltI, px_eq, px_ne1, nI_add, pk_mul, pk_sub, pk_div, nI_clamp, px_ui, px_ui2, px_uj1, px_uj, px_uf, px_uf2, if_pos, if_neg, if_true, if_false, ↓reduceIte, decide_true, Bool.and_true, Bool.true_and, c3, c2]
        rfl
      · simp (disch := omega) only [px_lit, px_litL, px_lt, px_1, px_2, px_3, px_ck, px_rm, px_le, px_ltI, px_eq, px_ne1, nI_add, pk_mul, pk_sub, pk_div, nI_clamp, px_ui, px_ui2, px_uj1, px_uj, px_uf, px_uf2, if_pos, if_neg, if_true, if_false, ↓reduceIte, decide_false, Bool.and_false, Bool.true_and, c3, c2]
        rfl
  · rw [decide_eq_false c]
    simp (disch := omega) only [px_lit, px_litL, px_lt, px_1, px_2, px_3, px_ck, px_rm, px_le, px_ltI, px_eq, px_ne1, nI_add, pk_mul, pk_sub, pk_div, nI_clamp, px_ui, px_ui2, px_uj1, px_uj, px_uf, px_uf2, if_pos, if_neg, if_true, if_false, ↓reduceIte, Bool.false_and]
    rfl
theorem px_none : ∀ j, j < 4 → (nI j = (-1 : Int32)) = (j = 99) := fun j hj => by
  rw [show (-1 : Int32) = -nI 1 from rfl, px_ne1 (by omega) (by omega) (by omega)]
  apply propext
  constructor
  · exact False.elim
  · intro h; omega
theorem px_some {r : Nat} (hr : r < 2 ^ 31) : ∀ j, j < 4 → (nI j = nI r) = (j = r) := fun j hj => px_eq (by omega) hr
theorem px_mlk {n : Nat} (hf : 10 ≤ fl) (hM : px_MT M d nr nn np kd g) (h0 : px_V0 d nr nn np kd) (h1 : px_V1 d nr nn g) (hn : n < 2 ^ 31) : Mo_isLucky fl (nI n) M = some (nI (px_lk d nr g n).toNat) := by
  unfold Mo_isLucky
  rw [px_mlb hf hM h0 h1 hn px_none]
  simp only [px_1, px_nb, if_true]
  rfl
end PM
def px_cn (P : Nat → Bool) : Nat → Nat
  | 0 => 0
  | n + 1 => px_cn P n + (P n).toNat
theorem px_cn_b (P : Nat → Bool) : ∀ n, px_cn P n ≤ n
  | 0 => Nat.le_refl _
  | n + 1 => by have := px_cn_b P n; have := px_b1 (P n); simp only [px_cn]; omega
theorem px_cn_mono (P : Nat → Bool) (a : Nat) : ∀ k, px_cn P a ≤ px_cn P (a + k)
  | 0 => Nat.le_refl _
  | k + 1 => Nat.le_trans (px_cn_mono P a k) (by rw [← Nat.add_assoc]; simp only [px_cn]; omega)
theorem px_cn_le (P : Nat → Bool) {a b : Nat} (h : a ≤ b) : px_cn P a ≤ px_cn P b := by
  have := px_cn_mono P a (b - a)
  rwa [show a + (b - a) = b by omega] at this
section PM2
variable {fl d nr nn np : Nat} {kd g : Nat → Nat} {M : gm_M}
theorem px_mmany_L {but b : Nat} {a0 : Int32} (hf : 10 ≤ fl) (hM : px_MT M d nr nn np kd g) (h0 : px_V0 d nr nn np kd) (h1 : px_V1 d nr nn g) (hd : 0 < d) (hb : b < 100000) (hbut : ∀ j, j < 4 → (nI j = a0) = (j = but)) : ∀ (m i c : Nat), i < 100001 → c ≤ i → b + 1 - i < m → Mo_manyBut_L6 fl a0 (nI b) M m (nI c) (nI i) = some (nI (c + (px_cn (px_lb d nr g but) (b + 1) - px_cn (px_lb d nr g but) i))) := by
  intro m
  induction m with
  | zero => intro i c _ _ h; omega
  | succ m ih =>
    intro i c hi hc hm
    show Mo_manyBut_L6_b fl a0 (nI b) M (Mo_manyBut_L6 fl a0 (nI b) M m) _ _ = _
    unfold Mo_manyBut_L6_b
    rw [hM.1]
    have hd4 : d ≤ 4 := by have := h0.1; omega
    by_cases e : b < i
    · simp (disch := omega) only [px_lit, px_litL, px_lt, px_1, px_2, px_3, px_ck, px_rm, px_le, px_ltI, px_eq, px_ne1, nI_add, pk_mul, pk_sub, pk_div, nI_clamp, px_ui, px_ui2, px_uj1, px_uj, px_uf, px_uf2, if_pos, if_neg, if_true, if_false, ↓reduceIte]
      have := px_cn_le (px_lb d nr g but) (show b + 1 ≤ i by omega)
      rw [show px_cn (px_lb d nr g but) (b + 1) - px_cn (px_lb d nr g but) i = 0 by omega, Nat.add_zero]
    · have h2 := px_b1 (px_lb d nr g but i)
      have i2 := ih (i + 1) (c + (px_lb d nr g but i).toNat) (by omega) (by omega) (by omega)
      have hle := px_cn_le (px_lb d nr g but) (show i + 1 ≤ b + 1 by omega)
      have hcn : px_cn (px_lb d nr g but) (i + 1) = px_cn (px_lb d nr g but) i + (px_lb d nr g but i).toNat := rfl
      simp (disch := omega) only [px_lit, px_litL, px_lt, px_1, px_2, px_3, px_ck, px_rm, px_le, px_ltI, px_eq, px_ne1, nI_add, pk_mul, pk_sub, pk_div, nI_clamp, px_ui, px_ui2, px_uj1, px_uj, px_uf, px_uf2, if_pos, if_neg, if_true, if_false, ↓reduceIte]
      rw [px_mlb hf hM h0 h1 (by omega) hbut]
      simp only [px_1]
      have e2 : c + (px_lb d nr g but i).toNat + (px_cn (px_lb d nr g but) (b + 1) - px_cn (px_lb d nr g but) (i + 1)) = c + (px_cn (px_lb d nr g but) (b + 1) - px_cn (px_lb d nr g but) i) := by omega
      rw [e2] at i2
      clear hcn e2
      revert i2 h2
      generalize hB : px_lb d nr g but i = B
      cases B
      · intro h2 i2
        simp only [Bool.toNat_false] at i2 ⊢
        simp (disch := omega) only [px_lit, px_litL, px_lt, px_1, px_2, px_3, px_ck, px_rm, px_le, px_ltI, px_eq, px_ne1, nI_add, pk_mul, pk_sub, pk_div, nI_clamp, px_ui, px_ui2, px_uj1, px_uj, px_uf, px_uf2, if_pos, if_neg, if_true, if_false, ↓reduceIte]
        exact i2
      · intro h2 i2
        simp only [Bool.toNat_true] at i2 ⊢
        simp (disch := omega) only [px_lit, px_litL, px_lt, px_1, px_2, px_3, px_ck, px_rm, px_le, px_ltI, px_eq, px_ne1, nI_add, pk_mul, pk_sub, pk_div, nI_clamp, px_ui, px_ui2, px_uj1, px_uj, px_uf, px_uf2, if_pos, if_neg, if_true, if_false, ↓reduceIte]
        exact i2
theorem px_mmany {but a b : Nat} {a0 : Int32} (hf : 20000 ≤ fl) (hM : px_MT M d nr nn np kd g) (h0 : px_V0 d nr nn np kd) (h1 : px_V1 d nr nn g) (hd : 0 < d) (ha : a < 10001) (hb : b < 10001) (hbut : ∀ j, j < 4 → (nI j = a0) = (j = but)) : Mo_manyBut fl a0 (nI a) (nI b) M = some (nI (px_cn (px_lb d nr g but) (b + 1) - px_cn (px_lb d nr g but) a)) := by
  unfold Mo_manyBut
  have L := px_mmany_L (fl := fl) (by omega) hM h0 h1 hd (show b < 100000 by omega) hbut fl a 0 (by omega) (by omega) (by omega)
  have L : Mo_manyBut_L6 fl a0 (nI b) M fl 0 (nI a) = _ := L
  rw [L, Nat.zero_add]
  rfl
theorem px_mall {but : Nat} {a0 : Int32} (hf : 20000 ≤ fl) (hM : px_MT M d nr nn np kd g) (h0 : px_V0 d nr nn np kd) (h1 : px_V1 d nr nn g) (hbut : ∀ j, j < 4 → (nI j = a0) = (j = but)) : Mo_manyBut fl a0 0 (M.1 0 1) M = some (nI (px_cn (px_lb d nr g but) (px_num d))) := by
  rw [hM.2.1]
  by_cases hd : 0 < d
  · have hn := px_num_le (show d ≤ 4 by have := h0.1; omega)
    have hp : 0 < px_num d := by unfold px_num; rw [if_neg (by omega)]; exact Nat.pow_pos (by decide)
    have L := px_mmany (a := 0) (b := px_num d - 1) hf hM h0 h1 hd (by omega) (by omega) hbut
    have L : Mo_manyBut fl a0 0 (nI (px_num d - 1)) M = _ := L
    rw [L, show px_num d - 1 + 1 = px_num d by omega]
    rfl
  · have hd : d = 0 := by omega
    subst hd
    obtain ⟨k, rfl⟩ : ∃ k, fl = k + 1 := ⟨fl - 1, by omega⟩
    unfold Mo_manyBut
    show gm_bp1 (Mo_manyBut_L6_b (k + 1) a0 _ M (Mo_manyBut_L6 (k + 1) a0 _ M k) 0 0) _ = _
    unfold Mo_manyBut_L6_b
    rw [hM.1]
    rfl
end PM2
