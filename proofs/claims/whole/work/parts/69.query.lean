section PQ
variable {C M : gm_M} {d nr nn np : Nat} {kd g : Nat → Nat} {fl : Nat}
theorem px_cn1 {b : Bool} : (nI b.toNat = nI 0) = (b = false) := by cases b <;> decide
theorem px_left {r : Nat} (hC : px_CT C 8 d nr nn np kd g) (h0 : px_V0 d nr nn np kd) (hr : r < nn) : Tr_ticketsLeft 8 (nI r) C = some (nI (g (17 + r))) ∧ Tr_nextTicket 8 (nI r) C = some (nI (g (13 + r))) := by
  have hb := h0.2.2.1
  obtain ⟨h1, h2⟩ := hC.2.2.2.2.2.2.2.1 r hr
  unfold Tr_ticketsLeft Tr_nextTicket
  constructor
  · simp (disch := omega) only [px_lit, px_litL, px_lt, px_1, px_2, px_3, px_ck, px_rm, px_le, px_ltI, px_eq, px_ne1, nI_add, pk_mul, pk_sub, pk_div, nI_clamp, px_ui, px_ui2, px_uj1, px_uj, px_uf, px_uf2, if_pos, if_neg, if_true, if_false, ↓reduceIte]
    rw [h2]
  · simp (disch := omega) only [px_lit, px_litL, px_lt, px_1, px_2, px_3, px_ck, px_rm, px_le, px_ltI, px_eq, px_ne1, nI_add, pk_mul, pk_sub, pk_div, nI_clamp, px_ui, px_ui2, px_uj1, px_uj, px_uf, px_uf2, if_pos, if_neg, if_true, if_false, ↓reduceIte]
    rw [h1]
theorem px_mrow {j : Nat} (hM : px_MT M d nr nn np kd g) (hj : j < 42) : M.1 2 j = nI (g j) := hM.2.2.2.2.2.1 j hj
theorem px_wrap {a n : Nat} (h : a < n) : (if n ≤ a + 1 then 0 else a + 1) = (a + 1) % n := by
  by_cases c : n ≤ a + 1
  · rw [if_pos c, show a + 1 = n by omega, Nat.mod_self]
  · rw [if_neg c, Nat.mod_eq_of_lt (by omega)]
theorem px_behind {a : Nat} (hf : 10 ≤ fl) (hC : px_CT C 8 d nr nn np kd g) (hd : d ≤ 4) (ha : a < px_num d) : Tr_behind fl 8 (nI a) C = some (nI ((a + 1) % px_num d)) := by
  have hn := px_num_le hd
  unfold Tr_behind
  rw [px_numbers fl 8 d C (by omega) hd hC.1, ← px_wrap ha]
  by_cases c : px_num d ≤ a + 1
  · rw [if_pos c]
    simp (disch := omega) only [px_lit, px_litL, px_lt, px_1, px_2, px_3, px_ck, px_rm, px_le, px_ltI, px_eq, px_ne1, nI_add, pk_mul, pk_sub, pk_div, nI_clamp, px_ui, px_ui2, px_uj1, px_uj, px_uf, px_uf2, if_pos, if_neg, if_true, if_false, ↓reduceIte]
  · rw [if_neg c]
    simp (disch := omega) only [px_lit, px_litL, px_lt, px_1, px_2, px_3, px_ck, px_rm, px_le, px_ltI, px_eq, px_ne1, nI_add, pk_mul, pk_sub, pk_div, nI_clamp, px_ui, px_ui2, px_uj1, px_uj, px_uf, px_uf2, if_pos, if_neg, if_true, if_false, ↓reduceIte]
theorem px_soon_L {r : Nat} (hf : 10 ≤ fl) (h0 : px_V0 d nr nn np kd) (h1 : px_V1 d nr nn g) (hC : px_CT C 8 d nr nn np kd g) (hM : px_MT M d nr nn np kd g) (hT : px_TB C d nr g) (hr : r < nn) : ∀ (m k : Nat), k ≤ g (17 + r) → g (17 + r) - k < m → ∃ x, Lt_soonFrom_L21 fl C (nI (g (17 + r))) m (nI ((g (13 + r) + k) % px_num d)) (nI k) = some x ∧ Mo_soon_L2 fl (nI r) M m (nI k) = some x ∧ (x = -1 ∨ ∃ j, j < g (17 + r) ∧ x = nI j) := by
  have hd := px_V0_d h0
  have hn := px_num_le hd
  have hnn := h0.2.2.1
  obtain ⟨hat, hle⟩ := h1.2.2.1 r hr
  have hp : 0 < px_num d := by omega
  intro m
  induction m with
  | zero => intro k _ h; omega
  | succ m ih =>
    intro k hk hm
    have e1 : Lt_soonFrom_L21 fl C (nI (g (17 + r))) (m + 1) (nI ((g (13 + r) + k) % px_num d)) (nI k) = Lt_soonFrom_L21_b fl C (nI (g (17 + r))) (Lt_soonFrom_L21 fl C (nI (g (17 + r))) m) (nI ((g (13 + r) + k) % px_num d)) (nI k) := rfl
    have e2 : Mo_soon_L2 fl (nI r) M (m + 1) (nI k) = Mo_soon_L2_b fl (nI r) M (Mo_soon_L2 fl (nI r) M m) (nI k) := rfl
    rw [e1, e2]
    unfold Lt_soonFrom_L21_b Mo_soon_L2_b
    have hq : (g (13 + r) + k) % px_num d < px_num d := Nat.mod_lt _ hp
    rw [hM.2.1]
    by_cases c : g (17 + r) ≤ k
    · refine ⟨-1, ?_, ?_, Or.inl rfl⟩
      · simp (disch := omega) only [px_lit, px_litL, px_lt, px_1, px_2, px_3, px_ck, px_rm, px_le, px_ltI, px_eq, px_ne1, nI_add, pk_mul, pk_sub, pk_div, nI_clamp, px_ui, px_ui2, px_uj1, px_uj, px_uf, px_uf2, if_pos, if_neg, if_true, if_false, ↓reduceIte]
      · simp (disch := omega) only [px_lit, px_litL, px_lt, px_1, px_2, px_3, px_ck, px_rm, px_le, px_ltI, px_eq, px_ne1, nI_add, pk_mul, pk_sub, pk_div, nI_clamp, px_ui, px_ui2, px_uj1, px_uj, px_uf, px_uf2, if_pos, if_neg, if_true, if_false, ↓reduceIte]
        rw [px_mrow hM (by omega)]
        simp (disch := omega) only [px_lit, px_litL, px_lt, px_1, px_2, px_3, px_ck, px_rm, px_le, px_ltI, px_eq, px_ne1, nI_add, pk_mul, pk_sub, pk_div, nI_clamp, px_ui, px_ui2, px_uj1, px_uj, px_uf, px_uf2, if_pos, if_neg, if_true, if_false, ↓reduceIte]
    · have hl := px_clk' hT hd hq
      have hml := px_mlk (fl := fl) (n := (g (13 + r) + k) % px_num d) hf hM h0 h1 (by omega)
      have hb := px_behind (fl := fl) hf hC hd hq
      have em : ((g (13 + r) + k) % px_num d + 1) % px_num d = (g (13 + r) + (k + 1)) % px_num d := by rw [Nat.mod_add_mod, Nat.add_assoc]
      rw [em] at hb
      simp (disch := omega) only [px_lit, px_litL, px_lt, px_1, px_2, px_3, px_ck, px_rm, px_le, px_ltI, px_eq, px_ne1, nI_add, pk_mul, pk_sub, pk_div, nI_clamp, px_ui, px_ui2, px_uj1, px_uj, px_uf, px_uf2, if_pos, if_neg, if_true, if_false, ↓reduceIte]
      rw [px_mrow hM (show 17 + r < 42 by omega), px_mrow hM (show 13 + r < 42 by omega)]
      simp (disch := omega) only [px_lit, px_litL, px_lt, px_1, px_2, px_3, px_ck, px_rm, px_le, px_ltI, px_eq, px_ne1, nI_add, pk_mul, pk_sub, pk_div, nI_clamp, px_ui, px_ui2, px_uj1, px_uj, px_uf, px_uf2, if_pos, if_neg, if_true, if_false, ↓reduceIte]
      rw [show px_num d - 1 + 1 = px_num d by omega]
      try simp (disch := omega) only [px_lit, px_litL, px_lt, px_1, px_2, px_3, px_ck, px_rm, px_le, px_ltI, px_eq, px_ne1, nI_add, pk_mul, pk_sub, pk_div, nI_clamp, px_ui, px_ui2, px_uj1, px_uj, px_uf, px_uf2, if_pos, if_neg, if_true, if_false, ↓reduceIte]
      rw [hl, hml]
      simp only [px_1]
      cases px_lk d nr g ((g (13 + r) + k) % px_num d)
      · simp only [Bool.toNat_false]
        simp (disch := omega) only [px_lit, px_litL, px_lt, px_1, px_2, px_3, px_ck, px_rm, px_le, px_ltI, px_eq, px_ne1, nI_add, pk_mul, pk_sub, pk_div, nI_clamp, px_ui, px_ui2, px_uj1, px_uj, px_uf, px_uf2, if_pos, if_neg, if_true, if_false, ↓reduceIte]
        rw [hb]
        simp (disch := omega) only [px_lit, px_litL, px_lt, px_1, px_2, px_3, px_ck, px_rm, px_le, px_ltI, px_eq, px_ne1, nI_add, pk_mul, pk_sub, pk_div, nI_clamp, px_ui, px_ui2, px_uj1, px_uj, px_uf, px_uf2, if_pos, if_neg, if_true, if_false, ↓reduceIte]
        exact ih (k + 1) (by omega) (by omega)
      · simp only [Bool.toNat_true]
        simp (disch := omega) only [px_lit, px_litL, px_lt, px_1, px_2, px_3, px_ck, px_rm, px_le, px_ltI, px_eq, px_ne1, nI_add, pk_mul, pk_sub, pk_div, nI_clamp, px_ui, px_ui2, px_uj1, px_uj, px_uf, px_uf2, if_pos, if_neg, if_true, if_false, ↓reduceIte]
        exact ⟨nI k, rfl, rfl, Or.inr ⟨k, by omega, rfl⟩⟩
theorem px_soon {r : Nat} (hf : 1000 ≤ fl) (h0 : px_V0 d nr nn np kd) (h1 : px_V1 d nr nn g) (hC : px_CT C 8 d nr nn np kd g) (hM : px_MT M d nr nn np kd g) (hT : px_TB C d nr g) (hr : r < nn) : ∃ x, Lt_soonFrom fl (nI r) C = some x ∧ Mo_soon fl (nI r) M = some x ∧ (x = -1 ∨ ∃ j, j < g (17 + r) ∧ x = nI j) := by
  obtain ⟨hat, hle⟩ := h1.2.2.1 r hr
  obtain ⟨x, a1, a2, a3⟩ := px_soon_L (fl := fl) (by omega) h0 h1 hC hM hT hr fl 0 (by omega) (by omega)
  rw [Nat.add_zero, Nat.mod_eq_of_lt hat] at a1
  have a1 : Lt_soonFrom_L21 fl C (nI (g (17 + r))) fl (nI (g (13 + r))) 0 = some x := a1
  have a2 : Mo_soon_L2 fl (nI r) M fl 0 = some x := a2
  obtain ⟨q1, q2⟩ := px_left hC h0 hr
  refine ⟨x, ?_, ?_, a3⟩
  · unfold Lt_soonFrom
    rw [q1, q2]
    exact a1
  · unfold Mo_soon
    exact a2
theorem px_lleft_L {r : Nat} (hf : 10 ≤ fl) (h0 : px_V0 d nr nn np kd) (h1 : px_V1 d nr nn g) (hC : px_CT C 8 d nr nn np kd g) (hM : px_MT M d nr nn np kd g) (hT : px_TB C d nr g) (hr : r < nn) : ∀ (m k c : Nat), k ≤ g (17 + r) → c ≤ k → g (17 + r) - k < m → ∃ x, x ≤ g (17 + r) ∧ Lt_luckyLeft_L24 fl C (nI (g (17 + r))) m (nI ((g (13 + r) + k) % px_num d)) (nI c) (nI k) = some (nI x) ∧ Mo_luckyLeft_L4 fl (nI r) M m (nI c) (nI k) = some (nI x) := by
  have hd := px_V0_d h0
  have hn := px_num_le hd
  have hnn := h0.2.2.1
  obtain ⟨hat, hle⟩ := h1.2.2.1 r hr
  have hp : 0 < px_num d := by omega
  intro m
  induction m with
  | zero => intro k c _ _ h; omega
  | succ m ih =>
    intro k c hk hc hm
    have e1 : Lt_luckyLeft_L24 fl C (nI (g (17 + r))) (m + 1) (nI ((g (13 + r) + k) % px_num d)) (nI c) (nI k) = Lt_luckyLeft_L24_b fl C (nI (g (17 + r))) (Lt_luckyLeft_L24 fl C (nI (g (17 + r))) m) (nI ((g (13 + r) + k) % px_num d)) (nI c) (nI k) := rfl
    have e2 : Mo_luckyLeft_L4 fl (nI r) M (m + 1) (nI c) (nI k) = Mo_luckyLeft_L4_b fl (nI r) M (Mo_luckyLeft_L4 fl (nI r) M m) (nI c) (nI k) := rfl
    rw [e1, e2]
    unfold Lt_luckyLeft_L24_b Mo_luckyLeft_L4_b
    have hq : (g (13 + r) + k) % px_num d < px_num d := Nat.mod_lt _ hp
    rw [hM.2.1]
    by_cases cc : g (17 + r) ≤ k
    · refine ⟨c, by omega, ?_, ?_⟩
      · simp (disch := omega) only [px_lit, px_litL, px_lt, px_1, px_2, px_3, px_ck, px_rm, px_le, px_ltI, px_eq, px_ne1, nI_add, pk_mul, pk_sub, pk_div, nI_clamp, px_ui, px_ui2, px_uj1, px_uj, px_uf, px_uf2, if_pos, if_neg, if_true, if_false, ↓reduceIte]
      · simp (disch := omega) only [px_lit, px_litL, px_lt, px_1, px_2, px_3, px_ck, px_rm, px_le, px_ltI, px_eq, px_ne1, nI_add, pk_mul, pk_sub, pk_div, nI_clamp, px_ui, px_ui2, px_uj1, px_uj, px_uf, px_uf2, if_pos, if_neg, if_true, if_false, ↓reduceIte]
        rw [px_mrow hM (by omega)]
        simp (disch := omega) only [px_lit, px_litL, px_lt, px_1, px_2, px_3, px_ck, px_rm, px_le, px_ltI, px_eq, px_ne1, nI_add, pk_mul, pk_sub, pk_div, nI_clamp, px_ui, px_ui2, px_uj1, px_uj, px_uf, px_uf2, if_pos, if_neg, if_true, if_false, ↓reduceIte]
    · have hl := px_clk' hT hd hq
      have hml := px_mlk (fl := fl) (n := (g (13 + r) + k) % px_num d) hf hM h0 h1 (by omega)
      have hb := px_behind (fl := fl) hf hC hd hq
      have em : ((g (13 + r) + k) % px_num d + 1) % px_num d = (g (13 + r) + (k + 1)) % px_num d := by rw [Nat.mod_add_mod, Nat.add_assoc]
      rw [em] at hb
      simp (disch := omega) only [px_lit, px_litL, px_lt, px_1, px_2, px_3, px_ck, px_rm, px_le, px_ltI, px_eq, px_ne1, nI_add, pk_mul, pk_sub, pk_div, nI_clamp, px_ui, px_ui2, px_uj1, px_uj, px_uf, px_uf2, if_pos, if_neg, if_true, if_false, ↓reduceIte]
      rw [px_mrow hM (show 17 + r < 42 by omega), px_mrow hM (show 13 + r < 42 by omega)]
      simp (disch := omega) only [px_lit, px_litL, px_lt, px_1, px_2, px_3, px_ck, px_rm, px_le, px_ltI, px_eq, px_ne1, nI_add, pk_mul, pk_sub, pk_div, nI_clamp, px_ui, px_ui2, px_uj1, px_uj, px_uf, px_uf2, if_pos, if_neg, if_true, if_false, ↓reduceIte]
      rw [show px_num d - 1 + 1 = px_num d by omega]
      try simp (disch := omega) only [px_lit, px_litL, px_lt, px_1, px_2, px_3, px_ck, px_rm, px_le, px_ltI, px_eq, px_ne1, nI_add, pk_mul, pk_sub, pk_div, nI_clamp, px_ui, px_ui2, px_uj1, px_uj, px_uf, px_uf2, if_pos, if_neg, if_true, if_false, ↓reduceIte]
      rw [hl, hml]
      simp only [px_1]
      cases px_lk d nr g ((g (13 + r) + k) % px_num d)
      · simp only [Bool.toNat_false]
        simp (disch := omega) only [px_lit, px_litL, px_lt, px_1, px_2, px_3, px_ck, px_rm, px_le, px_ltI, px_eq, px_ne1, nI_add, pk_mul, pk_sub, pk_div, nI_clamp, px_ui, px_ui2, px_uj1, px_uj, px_uf, px_uf2, if_pos, if_neg, if_true, if_false, ↓reduceIte]
        rw [hb]
        simp (disch := omega) only [px_lit, px_litL, px_lt, px_1, px_2, px_3, px_ck, px_rm, px_le, px_ltI, px_eq, px_ne1, nI_add, pk_mul, pk_sub, pk_div, nI_clamp, px_ui, px_ui2, px_uj1, px_uj, px_uf, px_uf2, if_pos, if_neg, if_true, if_false, ↓reduceIte]
        exact ih (k + 1) c (by omega) (by omega) (by omega)
      · simp only [Bool.toNat_true]
        simp (disch := omega) only [px_lit, px_litL, px_lt, px_1, px_2, px_3, px_ck, px_rm, px_le, px_ltI, px_eq, px_ne1, nI_add, pk_mul, pk_sub, pk_div, nI_clamp, px_ui, px_ui2, px_uj1, px_uj, px_uf, px_uf2, if_pos, if_neg, if_true, if_false, ↓reduceIte]
        rw [hb]
        simp (disch := omega) only [px_lit, px_litL, px_lt, px_1, px_2, px_3, px_ck, px_rm, px_le, px_ltI, px_eq, px_ne1, nI_add, pk_mul, pk_sub, pk_div, nI_clamp, px_ui, px_ui2, px_uj1, px_uj, px_uf, px_uf2, if_pos, if_neg, if_true, if_false, ↓reduceIte]
        exact ih (k + 1) (c + 1) (by omega) (by omega) (by omega)
theorem px_lleft {r : Nat} (hf : 1000 ≤ fl) (h0 : px_V0 d nr nn np kd) (h1 : px_V1 d nr nn g) (hC : px_CT C 8 d nr nn np kd g) (hM : px_MT M d nr nn np kd g) (hT : px_TB C d nr g) (hr : r < nn) : ∃ x, x ≤ g (17 + r) ∧ Lt_luckyLeft fl (nI r) C = some (nI x) ∧ Mo_luckyLeft fl (nI r) M = some (nI x) := by
  obtain ⟨hat, hle⟩ := h1.2.2.1 r hr
  obtain ⟨x, a0, a1, a2⟩ := px_lleft_L (fl := fl) (by omega) h0 h1 hC hM hT hr fl 0 0 (by omega) (by omega) (by omega)
  rw [Nat.add_zero, Nat.mod_eq_of_lt hat] at a1
  have a1 : Lt_luckyLeft_L24 fl C (nI (g (17 + r))) fl (nI (g (13 + r))) 0 0 = some (nI x) := a1
  have a2 : Mo_luckyLeft_L4 fl (nI r) M fl 0 0 = some (nI x) := a2
  obtain ⟨q1, q2⟩ := px_left hC h0 hr
  refine ⟨x, a0, ?_, ?_⟩
  · unfold Lt_luckyLeft
    rw [q1, q2]
    simp only [px_1]
    rw [a1]
    rfl
  · unfold Mo_luckyLeft
    rw [a2]
    rfl
theorem px_gcdC : ∀ (m i a b : Nat), b ≤ a → a ≤ 200 → b + i ≤ 200 → b < m → Lt_partDivisor_L18 m (nI a) (nI b) (nI i) = some (nI (Nat.gcd a b)) := by
  intro m
  induction m with
  | zero => intro i a b _ _ _ h; omega
  | succ m ih =>
    intro i a b hba ha hi hm
    have e1 : Lt_partDivisor_L18 (m + 1) (nI a) (nI b) (nI i) = Lt_partDivisor_L18_b (Lt_partDivisor_L18 m) (nI a) (nI b) (nI i) := rfl
    rw [e1]
    unfold Lt_partDivisor_L18_b
    by_cases c : b = 0
    · subst c
      by_cases c2 : 200 ≤ i
      · simp (disch := omega) only [px_lit, px_litL, px_lt, px_1, px_2, px_3, px_ck, px_rm, px_le, px_ltI, px_eq, px_ne1, nI_add, pk_mul, pk_sub, pk_div, nI_clamp, px_ui, px_ui2, px_uj1, px_uj, px_uf, px_uf2, if_pos, if_neg, if_true, if_false, ↓reduceIte, Nat.gcd_zero_right]
      · simp (disch := omega) only [px_lit, px_litL, px_lt, px_1, px_2, px_3, px_ck, px_rm, px_le, px_ltI, px_eq, px_ne1, nI_add, pk_mul, pk_sub, pk_div, nI_clamp, px_ui, px_ui2, px_uj1, px_uj, px_uf, px_uf2, if_pos, if_neg, if_true, if_false, ↓reduceIte, Nat.gcd_zero_right]
    · have hmod : a % b < b := Nat.mod_lt _ (by omega)
      simp (disch := omega) only [px_lit, px_litL, px_lt, px_1, px_2, px_3, px_ck, px_rm, px_le, px_ltI, px_eq, px_ne1, nI_add, pk_mul, pk_sub, pk_div, nI_clamp, px_ui, px_ui2, px_uj1, px_uj, px_uf, px_uf2, if_pos, if_neg, if_true, if_false, ↓reduceIte]
      rw [ih (i + 1) b (a % b) (by omega) (by omega) (by omega) (by omega), Nat.gcd_comm b, ← Nat.gcd_rec, Nat.gcd_comm]
theorem px_gcdM : ∀ (m a b : Nat), a ≤ 1000 → b ≤ 1000 → b < m → Mo_part_L38 m (nI a) (nI b) = some (nI (Nat.gcd a b)) := by
  intro m
  induction m with
  | zero => intro a b _ _ h; omega
  | succ m ih =>
    intro a b ha hb hm
    have e1 : Mo_part_L38 (m + 1) (nI a) (nI b) = Mo_part_L38_b (Mo_part_L38 m) (nI a) (nI b) := rfl
    rw [e1]
    unfold Mo_part_L38_b
    by_cases c : b = 0
    · subst c
      simp (disch := omega) only [px_lit, px_litL, px_lt, px_1, px_2, px_3, px_ck, px_rm, px_le, px_ltI, px_eq, px_ne1, nI_add, pk_mul, pk_sub, pk_div, nI_clamp, px_ui, px_ui2, px_uj1, px_uj, px_uf, px_uf2, if_pos, if_neg, if_true, if_false, ↓reduceIte, Nat.gcd_zero_right]
    · have hmod : a % b < b := Nat.mod_lt _ (by omega)
      simp (disch := omega) only [px_lit, px_litL, px_lt, px_1, px_2, px_3, px_ck, px_rm, px_le, px_ltI, px_eq, px_ne1, nI_add, pk_mul, pk_sub, pk_div, nI_clamp, px_ui, px_ui2, px_uj1, px_uj, px_uf, px_uf2, if_pos, if_neg, if_true, if_false, ↓reduceIte]
      rw [ih b (a % b) (by omega) (by omega) (by omega), Nat.gcd_comm b, ← Nat.gcd_rec, Nat.gcd_comm]
end PQ
