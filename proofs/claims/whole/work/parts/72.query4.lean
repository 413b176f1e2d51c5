section PC
variable {C M : gm_M} {d nr nn np : Nat} {kd g : Nat → Nat} {fl : Nat}
theorem px_set_L {n : Nat} (hf : 20000 ≤ fl) (h0 : px_V0 d nr nn np kd) (h1 : px_V1 d nr nn g) (hM : px_MT M d nr nn np kd g) (hT : px_TB C d nr g) (hn : n < px_num d) : ∀ (m i : Nat) (y : Int32), i ≤ nr → nr - i < m → ∃ x, Tb_rulesSayingYes_L4 (nI n) C m y (nI i) = some x ∧ Mo_lucky_L26 fl (nI n) M m y (nI i) = some x := by
  have hd := px_V0_d h0
  have hnu := px_num_le hd
  have hws := px_words_le hd
  have hnr := h0.2.1
  have hw : n / 64 < px_words d := by unfold px_words; omega
  intro m
  induction m with
  | zero => intro i y _ h; omega
  | succ m ih =>
    intro i y hi hm
    have e1 : Tb_rulesSayingYes_L4 (nI n) C (m + 1) y (nI i) = Tb_rulesSayingYes_L4_b (nI n) C (Tb_rulesSayingYes_L4 (nI n) C m) y (nI i) := rfl
    have e2 : Mo_lucky_L26 fl (nI n) M (m + 1) y (nI i) = Mo_lucky_L26_b fl (nI n) M (Mo_lucky_L26 fl (nI n) M m) y (nI i) := rfl
    rw [e1, e2]
    unfold Tb_rulesSayingYes_L4_b Mo_lucky_L26_b
    rw [hT.2.2.2.1, hM.2.2.1]
    by_cases c : nr ≤ i
    · rw [if_pos ((nI_leI (by omega) (by omega)).mpr c), if_pos ((nI_leI (by omega) (by omega)).mpr c)]
      exact ⟨y, rfl, rfl⟩
    · rw [if_neg (fun q => c ((nI_leI (by omega) (by omega)).mp q)), if_neg (fun q => c ((nI_leI (by omega) (by omega)).mp q))]
      have hb := (hT.2.2.2.2.2.2.1 i (by omega)).2 (n / 64) (n % 64) hw (Nat.mod_lt _ (by decide))
      have ht := px_bt_test (C.2 (14 + i) (n / 64)) (k := n % 64) (Nat.mod_lt _ (by decide))
      rw [show 64 * (n / 64) + n % 64 = n by omega, decide_eq_true hn, Bool.true_and] at hb
      have hy := px_myes (fl := fl) (r := i) (n := n) (by omega) hM h0 h1 (by omega) (by omega)
      rw [hy, px_shr6 (by omega), px_and63 (by omega), px_ck _ (by omega) (by decide), px_ck _ (by omega) (by decide), nI_clamp (by omega), nI_clamp (by omega), Nat.one_mul]
      simp only [px_1, px_lt]
      have en : nI i + 1 = nI (i + 1) := nI_1 i
      rw [en]
      cases hB : px_ry d g i n
      · rw [hB] at hb
        have ht2 : (lg_cmp ((C.2 (14 + i) (n / 64) >>> ((nI (n % 64)).toInt64 &&& 63)) &&& 1) 0 = 0) = True := by rw [ht]; exact eq_true hb
        simp only [ht2, if_true, Bool.toNat_false, px_e0, px_1]
        have ez : y ||| 0 = y := by
          apply Int32.toBitVec_inj.mp
          rw [Int32.toBitVec_or, show (0 : Int32).toBitVec = 0#32 from rfl, BitVec.or_zero]
        rw [ez]
        exact ih (i + 1) y (by omega) (by omega)
      · rw [hB] at hb
        have ht2 : (lg_cmp ((C.2 (14 + i) (n / 64) >>> ((nI (n % 64)).toInt64 &&& 63)) &&& 1) 0 = 0) = False := by rw [ht, hb]; decide
        simp only [ht2, if_false, Bool.toNat_true, px_e1, px_1]
        exact ih (i + 1) _ (by omega) (by omega)
theorem qx_lucky (a0 a1 : Int32) (hf : 20000 ≤ fl) (h0 : px_V0 d nr nn np kd) (h1 : px_V1 d nr nn g) (hC : px_CT C 8 d nr nn np kd g) (hM : px_MT M d nr nn np kd g) (hT : px_TB C d nr g) : ∃ x, Lt_lucky fl a0 a1 C = some x ∧ Mo_lucky fl a0 a1 M = some x := by
  have hd := px_V0_d h0
  have hn := px_num_le hd
  have hnr := h0.2.1
  unfold Lt_lucky Mo_lucky
  rcases px_hasNum fl a0 (by omega) hC hM h0 with ⟨e1, e2⟩ | ⟨n, hx, rfl, e1, e2⟩
  · rw [e1, e2]
    simp only [px_1, px_e0, if_true]
    exact ⟨_, rfl, rfl⟩
  · rw [e1, e2]
    simp only [px_1, px_e1, if_false]
    have i1 := px_in (Y := 0) (Z := 1) a1 0 1 rfl rfl
    rw [i1, show (0 : Int32).toInt = 0 from rfl, show (1 : Int32).toInt = 1 from rfl]
    simp only [px_1]
    rcases pk_ix a1 (n := 2) (by omega) with h | h | ⟨j, hj, rfl⟩
    · have := px_toI h
      rw [if_pos h, decide_eq_false (by omega)]
      exact ⟨_, rfl, rfl⟩
    · have h2 := Int32.le_iff_toInt_le.mp h
      rw [nI_toInt (by omega)] at h2
      rw [if_neg (show ¬ a1 ≤ (1 : Int32) from fun q => by have := Int32.le_iff_toInt_le.mp q; rw [show (1 : Int32).toInt = 1 from rfl] at this; omega), decide_eq_false (by omega)]
      refine ⟨_, ?_, rfl⟩
      split <;> rfl
    · rw [nI_toInt (by omega), decide_eq_true (by omega), if_neg (nI_pos (by omega)), if_pos (show nI j ≤ (1 : Int32) from (nI_leI (b := 1) (by omega) (by omega)).mpr (by omega))]
      simp only [Bool.toNat_true, px_e1, if_false]
      obtain ⟨x, a1, a2⟩ := px_set_L (fl := fl) (n := n) hf h0 h1 hM hT hx fl 0 0 (by omega) (by omega)
      have a1 : Tb_rulesSayingYes_L4 (nI n) C fl 0 0 = some x := a1
      have a2 : Mo_lucky_L26 fl (nI n) M fl 0 0 = some x := a2
      unfold Tb_rulesSayingYes
      rw [a1, a2]
      simp only [px_1]
      rcases (show j = 0 ∨ j = 1 by omega) with rfl | rfl
      · rw [if_neg (show ¬ nI 0 = (1 : Int32) by decide), if_neg (show ¬ nI 0 = (1 : Int32) by decide), px_clk' hT hd hx, px_mlk (fl := fl) (by omega) hM h0 h1 (by omega)]
        cases px_lk d nr g n <;> exact ⟨_, rfl, rfl⟩
      · rw [if_pos (show nI 1 = (1 : Int32) from rfl), if_pos (show nI 1 = (1 : Int32) from rfl)]
        exact ⟨_, rfl, rfl⟩
theorem px_judge_L {b : Nat} {bn : Nat → Nat} {bs : Nat → Bool} (hf : 20000 ≤ fl) (h0 : px_V0 d nr nn np kd) (h1 : px_V1 d nr nn g) (hM : px_MT M d nr nn np kd g) (hT : px_TB C d nr g) (hb : b ≤ 15) (c1 : C.1 92 2 = nI b) (m1 : M.1 0 32 = nI b) (hB : ∀ i, i < b → bn i < px_num d ∧ C.1 93 i = nI (bn i) ∧ M.1 13 i = nI (bn i) ∧ C.1 94 i = nI (bs i).toNat ∧ M.1 14 i = nI (bs i).toNat) : ∀ (m i : Nat), i ≤ b → b - i < m → ∃ x, Lt_judge_L2 C m (nI i) = some x ∧ Mo_judge_L2 fl M m (nI i) = some x := by
  have hd := px_V0_d h0
  have hn := px_num_le hd
  intro m
  induction m with
  | zero => intro i _ h; omega
  | succ m ih =>
    intro i hi hm
    have e1 : Lt_judge_L2 C (m + 1) (nI i) = Lt_judge_L2_b C (Lt_judge_L2 C m) (nI i) := rfl
    have e2 : Mo_judge_L2 fl M (m + 1) (nI i) = Mo_judge_L2_b fl M (Mo_judge_L2 fl M m) (nI i) := rfl
    rw [e1, e2]
    unfold Lt_judge_L2_b Mo_judge_L2_b
    rw [c1, m1]
    by_cases c : b ≤ i
    · simp (disch := omega) only [px_lit, px_litL, px_lt, px_1, px_2, px_3, px_ck, px_rm, px_le, px_ltI, px_eq, px_ne1, nI_add, pk_mul, pk_sub, pk_div, nI_clamp, px_ui, px_ui2, px_uj1, px_uj, px_uf, px_uf2, if_pos, if_neg, if_true, if_false, ↓reduceIte]
      exact ⟨_, rfl, rfl⟩
    · obtain ⟨q1, q2, q3, q4, q5⟩ := hB i (by omega)
      have hl := px_clk' hT hd q1
      have hml := px_mlk (fl := fl) (n := bn i) (by omega) hM h0 h1 (by omega)
      simp (disch := omega) only [px_lit, px_litL, px_lt, px_1, px_2, px_3, px_ck, px_rm, px_le, px_ltI, px_eq, px_ne1, nI_add, pk_mul, pk_sub, pk_div, nI_clamp, px_ui, px_ui2, px_uj1, px_uj, px_uf, px_uf2, if_pos, if_neg, if_true, if_false, ↓reduceIte]
      rw [q2, q3, q4, q5, hl, hml]
      simp only [px_1]
      by_cases cc : nI (px_lk d nr g (bn i)).toNat = nI (bs i).toNat
      · rw [if_pos cc, if_pos cc]
        exact ih (i + 1) (by omega) (by omega)
      · rw [if_neg cc, if_neg cc]
        exact ⟨_, rfl, rfl⟩
theorem qx_judge (hf : 20000 ≤ fl) (h0 : px_V0 d nr nn np kd) (h1 : px_V1 d nr nn g) (hM : px_MT M d nr nn np kd g) (hT : px_TB C d nr g) (hB : px_Bo C M d) : ∃ x, Lt_judge fl C = some x ∧ Mo_judge fl M = some x := by
  obtain ⟨b, bn, bs, hb, c1, m1, hB⟩ := hB
  obtain ⟨x, a1, a2⟩ := px_judge_L (fl := fl) hf h0 h1 hM hT hb c1 m1 hB fl 0 (by omega) (by omega)
  exact ⟨x, a1, a2⟩
theorem px_dry_L (a0 a1 : Int32) : ∀ (m : Nat) (y : Int64) (i : Int32), Lt_dry_L30 a0 a1 m y i = Mo_dry_L34 a0 a1 m y i := by
  intro m
  induction m with
  | zero => intro y i; rfl
  | succ m ih =>
    intro y i
    have e1 : Lt_dry_L30 a0 a1 (m + 1) y i = Lt_dry_L30_b a0 a1 (Lt_dry_L30 a0 a1 m) y i := rfl
    have e2 : Mo_dry_L34 a0 a1 (m + 1) y i = Mo_dry_L34_b a0 a1 (Mo_dry_L34 a0 a1 m) y i := rfl
    rw [e1, e2]
    unfold Lt_dry_L30_b Mo_dry_L34_b
    simp only [px_lt, ih]
theorem px_dry_T {n : Nat} (a1 : Int32) (hn : n ≤ 60) : ∀ (m i : Nat) (y : Int64), i ≤ n → n - i < m → ∃ z, Mo_dry_L34 (nI n) a1 m y (nI i) = some z := by
  intro m
  induction m with
  | zero => intro i y _ h; omega
  | succ m ih =>
    intro i y hi hm
    have e2 : Mo_dry_L34 (nI n) a1 (m + 1) y (nI i) = Mo_dry_L34_b (nI n) a1 (Mo_dry_L34 (nI n) a1 m) y (nI i) := rfl
    rw [e2]
    unfold Mo_dry_L34_b
    by_cases c : n ≤ i
    · rw [if_pos ((nI_leI (by omega) (by omega)).mpr c)]
      exact ⟨_, rfl⟩
    · rw [if_neg (fun q => c ((nI_leI (by omega) (by omega)).mp q))]
      simp only [px_lt]
      rw [show nI i + 1 = nI (i + 1) from nI_1 i]
      exact ih (i + 1) _ (by omega) (by omega)
theorem qx_dry (a0 a1 : Int32) (hf : 20000 ≤ fl) : ∃ x, Lt_dry fl a0 a1 = some x ∧ Mo_dry fl a0 a1 = some x := by
  unfold Lt_dry Mo_dry
  have i1 := px_in (Y := 0) (Z := 60) a0 0 60 rfl rfl
  have i2 := px_in (Y := 0) (Z := 100) a1 0 100 rfl rfl
  rw [i1, i2, show (0 : Int32).toInt = 0 from rfl, show (60 : Int32).toInt = 60 from rfl, show (100 : Int32).toInt = 100 from rfl]
  simp only [px_1]
  rcases pk_ix a0 (n := 61) (by omega) with h | h | ⟨n, hn, rfl⟩
  · have := px_toI h
    rw [if_pos h, decide_eq_false (by omega)]
    exact ⟨_, rfl, rfl⟩
  · have h2 := Int32.le_iff_toInt_le.mp h
    rw [nI_toInt (by omega)] at h2
    have h3 : ¬ a0 < 0 := fun q => by have := px_toI q; omega
    rw [if_neg h3, if_pos (show (60 : Int32) < a0 from Int32.lt_iff_toInt_lt.mpr (by rw [show (60 : Int32).toInt = 60 from rfl]; omega)), decide_eq_false (by omega)]
    exact ⟨_, rfl, rfl⟩
  · rw [nI_toInt (by omega), decide_eq_true (by omega), if_neg (nI_pos (by omega)), if_neg (show ¬ (60 : Int32) < nI n from fun q => by have := (nI_ltI (a := 60) (by omega) (by omega)).mp q; omega)]
    simp only [Bool.toNat_true, px_e1, if_false]
    rcases pk_ix a1 (n := 101) (by omega) with h | h | ⟨q, hq, rfl⟩
    · have := px_toI h
      rw [if_pos h, decide_eq_false (by omega)]
      exact ⟨_, rfl, rfl⟩
    · have h2 := Int32.le_iff_toInt_le.mp h
      rw [nI_toInt (by omega)] at h2
      have h3 : ¬ a1 < 0 := fun q => by have := px_toI q; omega
      rw [if_neg h3, if_neg (show ¬ a1 ≤ (100 : Int32) from fun q => by have := Int32.le_iff_toInt_le.mp q; rw [show (100 : Int32).toInt = 100 from rfl] at this; omega), decide_eq_false (by omega)]
      exact ⟨_, rfl, rfl⟩
    · rw [nI_toInt (by omega), decide_eq_true (by omega), if_neg (nI_pos (by omega)), if_pos (show nI q ≤ (100 : Int32) from (nI_leI (b := 100) (by omega) (by omega)).mpr (by omega))]
      simp only [Bool.toNat_true, px_e1, if_false]
      rw [px_dry_L]
      obtain ⟨z, hz⟩ := px_dry_T (n := n) (nI q) (by omega) fl 0 1000000000 (by omega) (by omega)
      have hz : Mo_dry_L34 (nI n) (nI q) fl 1000000000 0 = some z := hz
      rw [hz]
      exact ⟨_, rfl, rfl⟩
theorem qx_ruleOf (a0 a1 : Int32) (hf : 20000 ≤ fl) (h0 : px_V0 d nr nn np kd) (h1 : px_V1 d nr nn g) (hC : px_CT C 8 d nr nn np kd g) (hM : px_MT M d nr nn np kd g) (hT : px_TB C d nr g) : ∃ x, Lt_ruleOf fl a0 a1 C = some x ∧ Mo_ruleOf fl a0 a1 M = some x := by
  have hd := px_V0_d h0
  have hn := px_num_le hd
  have hnr := h0.2.1
  unfold Lt_ruleOf Mo_ruleOf
  rcases px_hasRule a0 hC hM h0 with ⟨e1, e2⟩ | ⟨r, hr, rfl, e1, e2⟩
  · rw [e1, e2]
    simp only [px_1, px_e0, if_true]
    exact ⟨_, rfl, rfl⟩
  · rw [e1, e2]
    simp only [px_1, px_e1, if_false]
    have ht := h1.2.1 r hr
    have hcd := hC.2.2.2.2.2.2.1 r hr
    have hcd : C.1 9 r = nI (px_cd g r) := hcd
    by_cases c0 : a1 = 0
    · rw [if_pos c0, if_pos c0]
      unfold Ru_kindOf
      simp (disch := omega) only [px_lit, px_1, px_ck, nI_clamp, nI_add]
      rw [hcd, px_mrow hM (by omega)]
      unfold px_cd
      rw [px_code_k ht]
      exact ⟨_, rfl, rfl⟩
    rw [if_neg c0, if_neg c0]
    by_cases c1 : a1 = 1
    · rw [if_pos c1, if_pos c1]
      unfold Ru_aOf
      simp (disch := omega) only [px_lit, px_1, px_ck, nI_clamp, nI_add]
      rw [hcd, px_mrow hM (by omega)]
      unfold px_cd
      rw [px_code_a ht]
      exact ⟨_, rfl, rfl⟩
    rw [if_neg c1, if_neg c1]
    by_cases c2 : a1 = 2
    · rw [if_pos c2, if_pos c2]
      unfold Ru_bOf
      simp (disch := omega) only [px_lit, px_1, px_ck, nI_clamp, nI_add]
      rw [hcd, px_mrow hM (by omega)]
      unfold px_cd
      rw [px_code_b ht]
      exact ⟨_, rfl, rfl⟩
    rw [if_neg c2, if_neg c2]
    by_cases c3 : a1 = 3
    · rw [if_pos c3, if_pos c3]
      have K1 := px_mall (fl := fl) (a0 := nI r) (but := r) hf hM h0 h1 (px_some (by omega))
      have K2 := px_mall (fl := fl) (a0 := -1) (but := 99) hf hM h0 h1 px_none
      have L := px_without (fl := fl) (r := r) (S := C) (g := g) (by omega) hd hT.2.2.1 hT.2.2.2.1 hT.2.2.2.2.1 h1.1 hnr (by omega) (fun r hr => (hT.2.2.2.2.2.2.1 r hr).2)
      unfold Mo_allLucky
      rw [K1, K2, L, hT.2.2.2.2.2.1]
      exact ⟨_, rfl, rfl⟩
    rw [if_neg c3, if_neg c3]
    exact ⟨_, rfl, rfl⟩
end PC
