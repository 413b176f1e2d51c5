section PB
variable {C M : gm_M} {d nr nn np : Nat} {kd g : Nat → Nat} {fl : Nat}
theorem px_next_L (hf : 20000 ≤ fl) (h0 : px_V0 d nr nn np kd) (h1 : px_V1 d nr nn g) (hM : px_MT M d nr nn np kd g) (hT : px_TB C d nr g) (hd0 : 0 < d) : ∀ (m i : Nat), i ≤ px_num d → px_num d - i < m → ∃ x, Tb_nextFrom_L2 C m (nI i) = some x ∧ Mo_next_L13 fl M m (nI i) = some x := by
  have hd := px_V0_d h0
  have hn := px_num_le hd
  have hp := px_num_pos hd0
  intro m
  induction m with
  | zero => intro i _ h; omega
  | succ m ih =>
    intro i hi hm
    have e1 : Tb_nextFrom_L2 C (m + 1) (nI i) = Tb_nextFrom_L2_b C (Tb_nextFrom_L2 C m) (nI i) := rfl
    have e2 : Mo_next_L13 fl M (m + 1) (nI i) = Mo_next_L13_b fl M (Mo_next_L13 fl M m) (nI i) := rfl
    rw [e1, e2]
    unfold Tb_nextFrom_L2_b Mo_next_L13_b
    rw [hT.2.1, hM.2.1]
    by_cases c : px_num d ≤ i
    · simp (disch := omega) only [px_lit, px_litL, px_lt, px_1, px_2, px_3, px_ck, px_rm, px_le, px_ltI, px_eq, px_ne1, nI_add, pk_mul, pk_sub, pk_div, nI_clamp, px_ui, px_ui2, px_uj1, px_uj, px_uf, px_uf2, if_pos, if_neg, if_true, if_false, ↓reduceIte]
      exact ⟨_, rfl, rfl⟩
    · have hl := px_clk' hT hd (show i < px_num d by omega)
      have hml := px_mlk (fl := fl) (n := i) (by omega) hM h0 h1 (by omega)
      simp (disch := omega) only [px_lit, px_litL, px_lt, px_1, px_2, px_3, px_ck, px_rm, px_le, px_ltI, px_eq, px_ne1, nI_add, pk_mul, pk_sub, pk_div, nI_clamp, px_ui, px_ui2, px_uj1, px_uj, px_uf, px_uf2, if_pos, if_neg, if_true, if_false, ↓reduceIte]
      rw [hl, hml]
      simp only [px_1]
      cases px_lk d nr g i
      · simp only [Bool.toNat_false]
        simp (disch := omega) only [px_lit, px_litL, px_lt, px_1, px_2, px_3, px_ck, px_rm, px_le, px_ltI, px_eq, px_ne1, nI_add, pk_mul, pk_sub, pk_div, nI_clamp, px_ui, px_ui2, px_uj1, px_uj, px_uf, px_uf2, if_pos, if_neg, if_true, if_false, ↓reduceIte]
        exact ih (i + 1) (by omega) (by omega)
      · simp only [Bool.toNat_true]
        simp (disch := omega) only [px_lit, px_litL, px_lt, px_1, px_2, px_3, px_ck, px_rm, px_le, px_ltI, px_eq, px_ne1, nI_add, pk_mul, pk_sub, pk_div, nI_clamp, px_ui, px_ui2, px_uj1, px_uj, px_uf, px_uf2, if_pos, if_neg, if_true, if_false, ↓reduceIte]
        exact ⟨_, rfl, rfl⟩
theorem qx_next (a0 : Int32) (hf : 20000 ≤ fl) (h0 : px_V0 d nr nn np kd) (h1 : px_V1 d nr nn g) (hC : px_CT C 8 d nr nn np kd g) (hM : px_MT M d nr nn np kd g) (hT : px_TB C d nr g) : ∃ x, Lt_next fl a0 C = some x ∧ Mo_next fl a0 M = some x := by
  have hd := px_V0_d h0
  have hn := px_num_le hd
  unfold Lt_next Mo_next
  rcases px_hasNum fl a0 (by omega) hC hM h0 with ⟨e1, e2⟩ | ⟨n, hx, rfl, e1, e2⟩
  · rw [e1, e2]
    simp only [px_1, px_e0, if_true]
    exact ⟨_, rfl, rfl⟩
  · rw [e1, e2]
    simp only [px_1, px_e1, if_false]
    have hd0 : 0 < d := by rcases Nat.eq_zero_or_pos d with h | h; (subst h; exact absurd hx (Nat.not_lt_zero _)); exact h
    obtain ⟨x, a1, a2⟩ := px_next_L (fl := fl) hf h0 h1 hM hT hd0 fl n (by omega) (by omega)
    unfold Tb_nextFrom
    rw [a1, a2]
    exact ⟨x, rfl, rfl⟩
theorem px_between_L {b : Nat} (hd : d ≤ 4) (hT : px_TB C d nr g) (hb : b < px_num d) : ∀ (m i c : Nat), i ≤ px_num d → c ≤ i → px_num d - i < m → Tb_countBetween_L5 (nI b) C m (nI c) (nI i) = some (nI (c + (px_cn (px_lk d nr g) (b + 1) - px_cn (px_lk d nr g) i))) := by
  have hn := px_num_le hd
  intro m
  induction m with
  | zero => intro i c _ _ h; omega
  | succ m ih =>
    intro i c hi hc hm
    have e1 : Tb_countBetween_L5 (nI b) C (m + 1) (nI c) (nI i) = Tb_countBetween_L5_b (nI b) C (Tb_countBetween_L5 (nI b) C m) (nI c) (nI i) := rfl
    rw [e1]
    unfold Tb_countBetween_L5_b
    rw [hT.2.1]
    by_cases e : b < i
    · have := px_cn_le (px_lk d nr g) (show b + 1 ≤ i by omega)
      rw [show px_cn (px_lk d nr g) (b + 1) - px_cn (px_lk d nr g) i = 0 by omega, Nat.add_zero]
      simp (disch := omega) only [px_lit, px_litL, px_lt, px_1, px_2, px_3, px_ck, px_rm, px_le, px_ltI, px_eq, px_ne1, nI_add, pk_mul, pk_sub, pk_div, nI_clamp, px_ui, px_ui2, px_uj1, px_uj, px_uf, px_uf2, if_pos, if_neg, if_true, if_false, ↓reduceIte]
    · have h2 := px_b1 (px_lk d nr g i)
      have i2 := ih (i + 1) (c + (px_lk d nr g i).toNat) (by omega) (by omega) (by omega)
      have hle := px_cn_le (px_lk d nr g) (show i + 1 ≤ b + 1 by omega)
      have hcn : px_cn (px_lk d nr g) (i + 1) = px_cn (px_lk d nr g) i + (px_lk d nr g i).toNat := rfl
      have e2 : c + (px_lk d nr g i).toNat + (px_cn (px_lk d nr g) (b + 1) - px_cn (px_lk d nr g) (i + 1)) = c + (px_cn (px_lk d nr g) (b + 1) - px_cn (px_lk d nr g) i) := by omega
      rw [e2] at i2
      clear hcn e2
      have hl := px_clk' hT hd (show i < px_num d by omega)
      simp (disch := omega) only [px_lit, px_litL, px_lt, px_1, px_2, px_3, px_ck, px_rm, px_le, px_ltI, px_eq, px_ne1, nI_add, pk_mul, pk_sub, pk_div, nI_clamp, px_ui, px_ui2, px_uj1, px_uj, px_uf, px_uf2, if_pos, if_neg, if_true, if_false, ↓reduceIte]
      rw [hl]
      simp only [px_1]
      revert i2 h2
      generalize px_lk d nr g i = B
      cases B
      · intro h2 i2
        simp only [Bool.toNat_false] at i2 ⊢
        simp (disch := omega) only [px_lit, px_litL, px_lt, px_1, px_2, px_3, px_ck, px_rm, px_le, px_ltI, px_eq, px_ne1, nI_add, pk_mul, pk_sub, pk_div, nI_clamp, px_ui, px_ui2, px_uj1, px_uj, px_uf, px_uf2, if_pos, if_neg, if_true, if_false, ↓reduceIte]
        exact i2
      · intro h2 i2
        simp only [Bool.toNat_true] at i2 ⊢
        simp (disch := omega) only [px_lit, px_litL, px_lt, px_1, px_2, px_3, px_ck, px_rm, px_le, px_ltI, px_eq, px_ne1, nI_add, pk_mul, pk_sub, pk_div, nI_clamp, px_ui, px_ui2, px_uj1, px_uj, px_uf, px_uf2, if_pos, if_neg, if_true, if_false, ↓reduceIte]
        exact i2
theorem qx_upTo (a0 a1 : Int32) (hf : 20000 ≤ fl) (h0 : px_V0 d nr nn np kd) (h1 : px_V1 d nr nn g) (hC : px_CT C 8 d nr nn np kd g) (hM : px_MT M d nr nn np kd g) (hT : px_TB C d nr g) : ∃ x, Lt_upTo fl a0 a1 C = some x ∧ Mo_upTo fl a0 a1 M = some x := by
  have hd := px_V0_d h0
  have hn := px_num_le hd
  unfold Lt_upTo Mo_upTo
  rcases px_hasNum fl a0 (by omega) hC hM h0 with ⟨e1, e2⟩ | ⟨a, ha, rfl, e1, e2⟩
  · rw [e1, e2]
    simp only [px_1, px_e0, if_true]
    exact ⟨_, rfl, rfl⟩
  · rw [e1, e2]
    simp only [px_1, px_e1, if_false]
    rcases px_hasNum fl a1 (by omega) hC hM h0 with ⟨e3, e4⟩ | ⟨b, hb, rfl, e3, e4⟩
    · rw [e3, e4]
      simp only [px_1, px_e0, if_true]
      exact ⟨_, rfl, rfl⟩
    · rw [e3, e4]
      simp only [px_1, px_e1, if_false]
      have hd0 : 0 < d := by rcases Nat.eq_zero_or_pos d with h | h; (subst h; exact absurd ha (Nat.not_lt_zero _)); exact h
      have L := px_between_L hd hT hb fl a 0 (by omega) (by omega) (by omega)
      have L : Tb_countBetween_L5 (nI b) C fl 0 (nI a) = _ := L
      have K := px_mmany (fl := fl) (a := a) (b := b) hf hM h0 h1 hd0 (by omega) (by omega) px_none
      unfold Tb_countBetween
      rw [L, K, Nat.zero_add]
      exact ⟨_, rfl, rfl⟩
theorem px_kth_L {k : Nat} (hk : k < 2 ^ 31) (hf : 20000 ≤ fl) (h0 : px_V0 d nr nn np kd) (h1 : px_V1 d nr nn g) (hM : px_MT M d nr nn np kd g) (hT : px_TB C d nr g) : ∀ (m i c : Nat), i ≤ px_num d → c ≤ i → c ≤ k → px_num d - i < m → ∃ x, Tb_numberAfter_L4 (nI k) C m (nI c) (nI i) = some x ∧ Mo_kth_L11 fl M m (nI (k - c)) (nI i) = some x := by
  have hd := px_V0_d h0
  have hn := px_num_le hd
  intro m
  induction m with
  | zero => intro i c _ _ _ h; omega
  | succ m ih =>
    intro i c hi hc hck hm
    have e1 : Tb_numberAfter_L4 (nI k) C (m + 1) (nI c) (nI i) = Tb_numberAfter_L4_b (nI k) C (Tb_numberAfter_L4 (nI k) C m) (nI c) (nI i) := rfl
    have e2 : Mo_kth_L11 fl M (m + 1) (nI (k - c)) (nI i) = Mo_kth_L11_b fl M (Mo_kth_L11 fl M m) (nI (k - c)) (nI i) := rfl
    rw [e1, e2]
    unfold Tb_numberAfter_L4_b Mo_kth_L11_b
    rw [hT.2.1, hM.2.1, hM.1]
    by_cases d0 : d = 0
    · subst d0
      have e0 : px_num 0 = 0 := rfl
      rw [e0] at hi ⊢
      have : i = 0 := by omega
      subst this
      simp (disch := omega) only [px_lit, px_litL, px_lt, px_1, px_2, px_3, px_ck, px_rm, px_le, px_ltI, px_eq, px_ne1, nI_add, pk_mul, pk_sub, pk_div, nI_clamp, px_ui, px_ui2, px_uj1, px_uj, px_uf, px_uf2, if_pos, if_neg, if_true, if_false, ↓reduceIte]
      exact ⟨_, rfl, rfl⟩
    · have hp := px_num_pos (show 0 < d by omega)
      by_cases cc : px_num d ≤ i
      · simp (disch := omega) only [px_lit, px_litL, px_lt, px_1, px_2, px_3, px_ck, px_rm, px_le, px_ltI, px_eq, px_ne1, nI_add, pk_mul, pk_sub, pk_div, nI_clamp, px_ui, px_ui2, px_uj1, px_uj, px_uf, px_uf2, if_pos, if_neg, if_true, if_false, ↓reduceIte]
        exact ⟨_, rfl, rfl⟩
      · have hl := px_clk' hT hd (show i < px_num d by omega)
        have hml := px_mlk (fl := fl) (n := i) (by omega) hM h0 h1 (by omega)
        simp (disch := omega) only [px_lit, px_litL, px_lt, px_1, px_2, px_3, px_ck, px_rm, px_le, px_ltI, px_eq, px_ne1, nI_add, pk_mul, pk_sub, pk_div, nI_clamp, px_ui, px_ui2, px_uj1, px_uj, px_uf, px_uf2, if_pos, if_neg, if_true, if_false, ↓reduceIte]
        rw [hl, hml]
        simp only [px_1]
        cases px_lk d nr g i
        · simp only [Bool.toNat_false]
          simp (disch := omega) only [px_lit, px_litL, px_lt, px_1, px_2, px_3, px_ck, px_rm, px_le, px_ltI, px_eq, px_ne1, nI_add, pk_mul, pk_sub, pk_div, nI_clamp, px_ui, px_ui2, px_uj1, px_uj, px_uf, px_uf2, if_pos, if_neg, if_true, if_false, ↓reduceIte]
          rw [Nat.sub_zero]
          exact ih (i + 1) c (by omega) (by omega) (by omega) (by omega)
        · simp only [Bool.toNat_true]
          by_cases ck : c = k
          · subst ck
            simp (disch := omega) only [px_lit, px_litL, px_lt, px_1, px_2, px_3, px_ck, px_rm, px_le, px_ltI, px_eq, px_ne1, nI_add, pk_mul, pk_sub, pk_div, nI_clamp, px_ui, px_ui2, px_uj1, px_uj, px_uf, px_uf2, if_pos, if_neg, if_true, if_false, ↓reduceIte]
            exact ⟨_, rfl, rfl⟩
          · have hs : nI (k - c) - nI 1 = nI (k - (c + 1)) := by rw [pk_sub (by omega)]; congr 1
            simp (disch := omega) only [px_lit, px_le, px_ltI, px_eq, px_1, px_lt, if_pos, if_neg, ↓reduceIte, nI_add, hs]
            exact ih (i + 1) (c + 1) (by omega) (by omega) (by omega) (by omega)
theorem qx_kth (a0 : Int32) (hf : 20000 ≤ fl) (h0 : px_V0 d nr nn np kd) (h1 : px_V1 d nr nn g) (hM : px_MT M d nr nn np kd g) (hT : px_TB C d nr g) : ∃ x, Lt_kth fl a0 C = some x ∧ Mo_kth fl a0 M = some x := by
  have hd := px_V0_d h0
  have hn := px_num_le hd
  unfold Lt_kth Mo_kth
  by_cases c : a0 < 0
  · rw [if_neg (Int32.not_le.mpr c), if_neg (Int32.not_le.mpr c)]
    exact ⟨_, rfl, rfl⟩
  · obtain ⟨k, hk, rfl⟩ := nI_of c
    rw [if_pos (nI_pos' hk), if_pos (nI_pos' hk)]
    obtain ⟨x, a1, a2⟩ := px_kth_L (fl := fl) hk hf h0 h1 hM hT fl 0 0 (by omega) (by omega) (by omega) (by omega)
    have a1 : Tb_numberAfter_L4 (nI k) C fl 0 0 = some x := a1
    have a2 : Mo_kth_L11 fl M fl (nI k) 0 = some x := a2
    unfold Tb_numberAfter
    rw [a1, a2]
    exact ⟨x, rfl, rfl⟩
theorem px_nx_at {n : Nat} (hd : d ≤ 4) (hT : px_TB C d nr g) (hn : n < px_num d) (hP : px_lk d nr g n = true) : ∀ (m i : Nat), i ≤ n → (∀ j, i ≤ j → j < n → px_lk d nr g j = false) → n - i < m → Tb_nextFrom_L2 C m (nI i) = some (nI n) := by
  have hnu := px_num_le hd
  intro m
  induction m with
  | zero => intro i _ _ h; omega
  | succ m ih =>
    intro i hi hno hm
    have e1 : Tb_nextFrom_L2 C (m + 1) (nI i) = Tb_nextFrom_L2_b C (Tb_nextFrom_L2 C m) (nI i) := rfl
    rw [e1]
    unfold Tb_nextFrom_L2_b
    rw [hT.2.1]
    have hl := px_clk' hT hd (show i < px_num d by omega)
    simp (disch := omega) only [px_lit, px_litL, px_lt, px_1, px_2, px_3, px_ck, px_rm, px_le, px_ltI, px_eq, px_ne1, nI_add, pk_mul, pk_sub, pk_div, nI_clamp, px_ui, px_ui2, px_uj1, px_uj, px_uf, px_uf2, if_pos, if_neg, if_true, if_false, ↓reduceIte]
    rw [hl]
    simp only [px_1]
    by_cases e : i = n
    · subst e
      rw [hP]
      simp only [Bool.toNat_true]
      simp (disch := omega) only [px_lit, px_litL, px_lt, px_1, px_2, px_3, px_ck, px_rm, px_le, px_ltI, px_eq, px_ne1, nI_add, pk_mul, pk_sub, pk_div, nI_clamp, px_ui, px_ui2, px_uj1, px_uj, px_uf, px_uf2, if_pos, if_neg, if_true, if_false, ↓reduceIte]
    · rw [hno i (Nat.le_refl _) (by omega)]
      simp only [Bool.toNat_false]
      simp (disch := omega) only [px_lit, px_litL, px_lt, px_1, px_2, px_3, px_ck, px_rm, px_le, px_ltI, px_eq, px_ne1, nI_add, pk_mul, pk_sub, pk_div, nI_clamp, px_ui, px_ui2, px_uj1, px_uj, px_uf, px_uf2, if_pos, if_neg, if_true, if_false, ↓reduceIte]
      exact ih (i + 1) (by omega) (fun j h1 h2 => hno j (by omega) h2) (by omega)
theorem px_wait_L (hf : 20000 ≤ fl) (h0 : px_V0 d nr nn np kd) (h1 : px_V1 d nr nn g) (hM : px_MT M d nr nn np kd g) (hT : px_TB C d nr g) : ∀ (m i : Nat) (lo lg mo be : Int32), i ≤ px_num d → px_num d - i < m → ((lo = -1 ∧ lg = nI 0 ∧ mo = -1) ∨ (∃ l w, 0 < w ∧ l + w < i ∧ lo = nI l ∧ lg = nI w ∧ mo = nI w ∧ px_lk d nr g (l + w) = true ∧ ∀ j, l < j → j < l + w → px_lk d nr g j = false)) → (be = -1 ∨ (∃ b, b < i ∧ be = nI b ∧ ∀ j, b < j → j < i → px_lk d nr g j = false)) → ∃ lo' mo', Tb_lowerOfLongestWait_L9 C m lo lg be (nI i) = some lo' ∧ Mo_waits_L23 fl M m mo lo be (nI i) = some (mo', lo') ∧ ((lo' = -1 ∧ mo' = -1) ∨ (∃ l w, 0 < w ∧ l + w < px_num d ∧ lo' = nI l ∧ mo' = nI w ∧ px_lk d nr g (l + w) = true ∧ ∀ j, l < j → j < l + w → px_lk d nr g j = false)) := by
  have hd := px_V0_d h0
  have hn := px_num_le hd
  intro m
  induction m with
  | zero => intro i lo lg mo be _ h; omega
  | succ m ih =>
    intro i lo lg mo be hi hm inv inb
    have e1 : Tb_lowerOfLongestWait_L9 C (m + 1) lo lg be (nI i) = Tb_lowerOfLongestWait_L9_b C (Tb_lowerOfLongestWait_L9 C m) lo lg be (nI i) := rfl
    have e2 : Mo_waits_L23 fl M (m + 1) mo lo be (nI i) = Mo_waits_L23_b fl M (Mo_waits_L23 fl M m) mo lo be (nI i) := rfl
    rw [e1, e2]
    unfold Tb_lowerOfLongestWait_L9_b Mo_waits_L23_b
    rw [hT.2.1, hM.2.1, hM.1]
    have fin : px_num d ≤ i → ((lo = -1 ∧ mo = -1) ∨ (∃ l w, 0 < w ∧ l + w < px_num d ∧ lo = nI l ∧ mo = nI w ∧ px_lk d nr g (l + w) = true ∧ ∀ j, l < j → j < l + w → px_lk d nr g j = false)) := fun h => by
      rcases inv with ⟨a, -, b⟩ | ⟨l, w, w0, w1, a, -, b, q1, q2⟩
      · exact Or.inl ⟨a, b⟩
      · exact Or.inr ⟨l, w, w0, by omega, a, b, q1, q2⟩
    by_cases d0 : d = 0
    · subst d0
      have e0 : px_num 0 = 0 := rfl
      refine ⟨lo, mo, ?_, ?_, fin (by omega)⟩
      · rw [e0]
        simp (disch := omega) only [px_lit, px_litL, px_lt, px_1, px_2, px_3, px_ck, px_rm, px_le, px_ltI, px_eq, px_ne1, nI_add, pk_mul, pk_sub, pk_div, nI_clamp, px_ui, px_ui2, px_uj1, px_uj, px_uf, px_uf2, if_pos, if_neg, if_true, if_false, ↓reduceIte]
      · by_cases c : nI (px_num 0 - 1) < nI i
        · rw [if_pos c]
        · rw [if_neg c]
          simp (disch := omega) only [px_lit, px_litL, px_lt, px_1, px_2, px_3, px_ck, px_rm, px_le, px_ltI, px_eq, px_ne1, nI_add, pk_mul, pk_sub, pk_div, nI_clamp, px_ui, px_ui2, px_uj1, px_uj, px_uf, px_uf2, if_pos, if_neg, if_true, if_false, ↓reduceIte]
    · have hp := px_num_pos (show 0 < d by omega)
      by_cases cc : px_num d ≤ i
      · refine ⟨lo, mo, ?_, ?_, fin cc⟩
        · simp (disch := omega) only [px_lit, px_litL, px_lt, px_1, px_2, px_3, px_ck, px_rm, px_le, px_ltI, px_eq, px_ne1, nI_add, pk_mul, pk_sub, pk_div, nI_clamp, px_ui, px_ui2, px_uj1, px_uj, px_uf, px_uf2, if_pos, if_neg, if_true, if_false, ↓reduceIte]
        · simp (disch := omega) only [px_lit, px_litL, px_lt, px_1, px_2, px_3, px_ck, px_rm, px_le, px_ltI, px_eq, px_ne1, nI_add, pk_mul, pk_sub, pk_div, nI_clamp, px_ui, px_ui2, px_uj1, px_uj, px_uf, px_uf2, if_pos, if_neg, if_true, if_false, ↓reduceIte]
      · have hl := px_clk' hT hd (show i < px_num d by omega)
        have hml := px_mlk (fl := fl) (n := i) (by omega) hM h0 h1 (by omega)
        rw [if_neg (nI_ge (show i < px_num d by omega) (by omega)), if_neg (nI_nlt (show i ≤ px_num d - 1 by omega) (by omega)), if_neg (nI_nle (show 0 < d by omega) (by omega)), hl, hml]
        simp only [px_1]
        have en : nI i + 1 = nI (i + 1) := nI_1 i
        cases hB : px_lk d nr g i
        · simp only [Bool.toNat_false]
          simp only [px_e0, if_true, px_3, px_lt]
          rw [en]
          exact ih (i + 1) lo lg mo be (by omega) (by omega) (by
            rcases inv with h | ⟨l, w, w0, w1, a⟩
            · exact Or.inl h
            · exact Or.inr ⟨l, w, w0, by omega, a⟩) (by
            rcases inb with h | ⟨b, b1, b2, b3⟩
            · exact Or.inl h
            · refine Or.inr ⟨b, by omega, b2, fun j j1 j2 => ?_⟩
              by_cases ej : j = i
              · rw [ej]; exact hB
              · exact b3 j j1 (by omega))
        · simp only [Bool.toNat_true]
          have n10 : ((1 : Int32) = 0) = False := by decide
          have n00 : ((0 : Int32) = 0) = True := by decide
          simp only [px_e1, if_false]
          have hbe' : (nI i = (-1 : Int32) ∨ (∃ b, b < i + 1 ∧ nI i = nI b ∧ ∀ j, b < j → j < i + 1 → px_lk d nr g j = false)) := Or.inr ⟨i, by omega, rfl, fun j _ _ => by omega⟩
          have inv' : ((lo = -1 ∧ lg = nI 0 ∧ mo = -1) ∨ (∃ l w, 0 < w ∧ l + w < i + 1 ∧ lo = nI l ∧ lg = nI w ∧ mo = nI w ∧ px_lk d nr g (l + w) = true ∧ ∀ j, l < j → j < l + w → px_lk d nr g j = false)) := by
            rcases inv with h | ⟨l, w, w0, w1, a⟩
            · exact Or.inl h
            · exact Or.inr ⟨l, w, w0, by omega, a⟩
          rcases inb with rfl | ⟨b, b1, rfl, b3⟩
          · rw [if_pos rfl, if_pos (show (-1 : Int32) < 0 by decide)]
            simp only [px_1, px_2, px_3, px_lt, n00, if_true]
            rw [en]
            exact ih (i + 1) lo lg mo (nI i) (by omega) (by omega) inv' hbe'
          · have c1 : ¬ nI b = (-1 : Int32) := by rw [show (-1 : Int32) = -nI 1 from rfl, px_ne1 (by omega) (by omega) (by omega)]; exact id
            have c2 : ¬ nI b < 0 := nI_pos (by omega)
            rw [if_neg c1, if_neg c2, pk_sub (show b ≤ i by omega)]
            have take : ∃ lo' mo', Tb_lowerOfLongestWait_L9 C m (nI b) (nI (i - b)) (nI i) (nI (i + 1)) = some lo' ∧ Mo_waits_L23 fl M m (nI (i - b)) (nI b) (nI i) (nI (i + 1)) = some (mo', lo') ∧ ((lo' = -1 ∧ mo' = -1) ∨ (∃ l w, 0 < w ∧ l + w < px_num d ∧ lo' = nI l ∧ mo' = nI w ∧ px_lk d nr g (l + w) = true ∧ ∀ j, l < j → j < l + w → px_lk d nr g j = false)) :=
              ih (i + 1) (nI b) (nI (i - b)) (nI (i - b)) (nI i) (by omega) (by omega) (Or.inr ⟨b, i - b, by omega, by omega, rfl, rfl, rfl, by rw [show b + (i - b) = i by omega]; exact hB, fun j j1 j2 => b3 j j1 (by omega)⟩) hbe'
            rcases inv with ⟨rfl, rfl, rfl⟩ | ⟨l, w, w0, w1, rfl, rfl, rfl, w2⟩
            · rw [if_neg (show ¬ nI (i - b) ≤ nI 0 from nI_nle (by omega) (by omega)), if_neg (show ¬ nI (i - b) ≤ (-1 : Int32) from fun q => by
                have q1 := Int32.le_iff_toInt_le.mp q
                rw [nI_toInt (by omega)] at q1
                have q2 : ((-1 : Int32)).toInt = -1 := by decide
                omega)]
              simp only [px_1, px_2, px_3, px_lt, n10, if_false]
              rw [en]
              exact take
            · by_cases c3 : i - b ≤ w
              · rw [if_pos ((nI_leI (by omega) (by omega)).mpr c3), if_pos ((nI_leI (by omega) (by omega)).mpr c3)]
                simp only [px_1, px_2, px_3, px_lt, n00, if_true]
                rw [en]
                exact ih (i + 1) (nI l) (nI w) (nI w) (nI i) (by omega) (by omega) inv' hbe'
              · rw [if_neg (fun q => c3 ((nI_leI (by omega) (by omega)).mp q)), if_neg (fun q => c3 ((nI_leI (by omega) (by omega)).mp q))]
                simp only [px_1, px_2, px_3, px_lt, n10, if_false]
                rw [en]
                exact take
theorem qx_waits (a0 : Int32) (hf : 20000 ≤ fl) (h0 : px_V0 d nr nn np kd) (h1 : px_V1 d nr nn g) (hM : px_MT M d nr nn np kd g) (hT : px_TB C d nr g) : ∃ x, Lt_waits fl a0 C = some x ∧ Mo_waits fl a0 M = some x := by
  have hd := px_V0_d h0
  have hn := px_num_le hd
  obtain ⟨lo, mo, a1, a2, a3⟩ := px_wait_L (fl := fl) hf h0 h1 hM hT fl 0 (-1) (nI 0) (-1) (-1) (by omega) (by omega) (Or.inl ⟨rfl, rfl, rfl⟩) (Or.inl rfl)
  have a1 : Tb_lowerOfLongestWait_L9 C fl (-1) 0 (-1) 0 = some lo := a1
  have a2 : Mo_waits_L23 fl M fl (-1) (-1) (-1) 0 = some (mo, lo) := a2
  have i1 := px_in (Y := 0) (Z := 1) a0 0 1 rfl rfl
  unfold Lt_waits Mo_waits Tb_lowerOfLongestWait
  rw [i1, a1, a2, show (0 : Int32).toInt = 0 from rfl, show (1 : Int32).toInt = 1 from rfl]
  simp only [px_1, px_2]
  rcases pk_ix a0 (n := 2) (by omega) with h | h | ⟨j, hj, rfl⟩
  · have := px_toI h
    rw [if_pos h, decide_eq_false (by omega)]
    exact ⟨_, rfl, rfl⟩
  · have h2 := Int32.le_iff_toInt_le.mp h
    rw [nI_toInt (by omega)] at h2
    rw [if_neg (show ¬ a0 ≤ (1 : Int32) from fun q => by have := Int32.le_iff_toInt_le.mp q; rw [show (1 : Int32).toInt = 1 from rfl] at this; omega), decide_eq_false (by omega)]
    refine ⟨_, ?_, rfl⟩
    split <;> rfl
  · rw [nI_toInt (by omega), decide_eq_true (by omega), if_neg (nI_pos (by omega)), if_pos (show nI j ≤ (1 : Int32) from (nI_leI (b := 1) (by omega) (by omega)).mpr (by omega))]
    simp only [Bool.toNat_true, px_e1, if_false]
    rcases a3 with ⟨rfl, rfl⟩ | ⟨l, w, w0, w1, rfl, rfl, w2, w3⟩
    · rw [if_pos rfl]
      refine ⟨-1, rfl, ?_⟩
      split <;> rfl
    · have n1 : ¬ nI l = (-1 : Int32) := by rw [show (-1 : Int32) = -nI 1 from rfl, px_ne1 (by omega) (by omega) (by omega)]; exact id
      rw [if_neg n1]
      rcases (show j = 0 ∨ j = 1 by omega) with rfl | rfl
      · rw [if_neg (show ¬ nI 0 = (1 : Int32) by decide), if_pos (show nI 0 = (0 : Int32) from rfl)]
        have L := px_nx_at hd hT w1 w2 fl (l + 1) (by omega) (fun j j1 j2 => w3 j (by omega) j2) (by omega)
        have en : nI l + 1 = nI (l + 1) := nI_1 l
        unfold Tb_nextFrom
        rw [en, L]
        refine ⟨nI w, ?_, rfl⟩
        simp only [px_1]
        rw [pk_sub (by omega), Nat.add_sub_cancel_left]
      · rw [if_pos (show nI 1 = (1 : Int32) from rfl), if_neg (show ¬ nI 1 = (0 : Int32) by decide)]
        exact ⟨_, rfl, rfl⟩
end PB
