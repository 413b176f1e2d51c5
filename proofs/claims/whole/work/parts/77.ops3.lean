def px_tb (k a b : Nat) : Bool := decide ((k = 0 ∧ a ≤ 36 ∧ b = 0) ∨ (k = 1 ∧ a ≤ 2 ∧ b = 0) ∨ (k = 2 ∧ a ≤ 9 ∧ b ≤ 4) ∨ (k = 3 ∧ 2 ≤ a ∧ a ≤ 12 ∧ b < a) ∨ (k = 4 ∧ a ≤ 3 ∧ b = 0))
theorem px_tb_t {k a b : Nat} (h : px_told k a b) : px_tb k a b = true := decide_eq_true h
theorem px_tb_f {k a b : Nat} (h : ¬ px_told k a b) : px_tb k a b = false := decide_eq_false h
theorem px_tb_o {k a b : Nat} (h : px_tb k a b = true) : px_told k a b := by unfold px_tb at h; unfold px_told; exact of_decide_eq_true h
theorem px_may_n {k a b : Nat} (hk : k < 5) (ha : a < 2 ^ 31) (hb : b < 2 ^ 31) : Ru_mayBeTold (nI k) (nI a) (nI b) = some (nI (px_tb k a b).toNat) := by
  have L0 : ∀ j, j < 5 → Ru_leastA (nI j) = some (gm_la j) := by
    intro j hj
    rcases (show j = 0 ∨ j = 1 ∨ j = 2 ∨ j = 3 ∨ j = 4 by omega) with rfl | rfl | rfl | rfl | rfl <;> rfl
  have G0 : ∀ j, j < 5 → Ru_greatestA (nI j) = some (gm_ga j) := by
    intro j hj
    rcases (show j = 0 ∨ j = 1 ∨ j = 2 ∨ j = 3 ∨ j = 4 by omega) with rfl | rfl | rfl | rfl | rfl <;> rfl
  have l0 := L0 k hk
  have g0 := G0 k hk
  have p0 := nI_pos ha
  have p1 := nI_pos hb
  unfold Ru_mayBeTold
  rw [l0, g0]
  simp only [px_1]
  rcases (show k = 0 ∨ k = 1 ∨ k = 2 ∨ k = 3 ∨ k = 4 by omega) with rfl | rfl | rfl | rfl | rfl
  · rw [if_neg (show ¬ nI 0 < (0 : Int32) by decide), if_neg (show ¬ (5 : Int32) ≤ nI 0 by decide), show Ru_greatestB (nI 0) (nI a) = some (nI 0) from rfl, show gm_la 0 = (0 : Int32) from rfl, show gm_ga 0 = nI 36 from rfl, if_neg p0, if_neg p1]
    simp only [px_1, px_ltI (show 36 < 2 ^ 31 by decide) ha, px_ltI (show 0 < 2 ^ 31 by decide) hb]
    split
    · rw [px_tb_f (by unfold px_told; omega)]; rfl
    · split
      · rw [px_tb_f (by unfold px_told; omega)]; rfl
      · rw [px_tb_t (by unfold px_told; omega)]; rfl
  · rw [if_neg (show ¬ nI 1 < (0 : Int32) by decide), if_neg (show ¬ (5 : Int32) ≤ nI 1 by decide), show Ru_greatestB (nI 1) (nI a) = some (nI 0) from rfl, show gm_la 1 = (0 : Int32) from rfl, show gm_ga 1 = nI 2 from rfl, if_neg p0, if_neg p1]
    simp only [px_1, px_ltI (show 2 < 2 ^ 31 by decide) ha, px_ltI (show 0 < 2 ^ 31 by decide) hb]
    split
    · rw [px_tb_f (by unfold px_told; omega)]; rfl
    · split
      · rw [px_tb_f (by unfold px_told; omega)]; rfl
      · rw [px_tb_t (by unfold px_told; omega)]; rfl
  · rw [if_neg (show ¬ nI 2 < (0 : Int32) by decide), if_neg (show ¬ (5 : Int32) ≤ nI 2 by decide), show Ru_greatestB (nI 2) (nI a) = some (nI 4) from rfl, show gm_la 2 = (0 : Int32) from rfl, show gm_ga 2 = nI 9 from rfl, if_neg p0, if_neg p1]
    simp only [px_1, px_ltI (show 9 < 2 ^ 31 by decide) ha, px_ltI (show 4 < 2 ^ 31 by decide) hb]
    split
    · rw [px_tb_f (by unfold px_told; omega)]; rfl
    · split
      · rw [px_tb_f (by unfold px_told; omega)]; rfl
      · rw [px_tb_t (by unfold px_told; omega)]; rfl
  · rw [if_neg (show ¬ nI 3 < (0 : Int32) by decide), if_neg (show ¬ (5 : Int32) ≤ nI 3 by decide), show Ru_greatestB (nI 3) (nI a) = some (nI a - 1) from rfl, show gm_la 3 = nI 2 from rfl, show gm_ga 3 = nI 12 from rfl, if_neg p1]
    simp only [px_1, px_ltI ha (show 2 < 2 ^ 31 by decide), px_ltI (show 12 < 2 ^ 31 by decide) ha]
    split
    · rw [px_tb_f (by unfold px_told; omega)]; rfl
    · rw [show nI a - 1 = nI (a - 1) from pk_sub (b := 1) (by omega)]
      simp only [px_ltI (show a - 1 < 2 ^ 31 by omega) hb]
      split
      · rw [px_tb_f (by unfold px_told; omega)]; rfl
      · split
        · rw [px_tb_f (by unfold px_told; omega)]; rfl
        · rw [px_tb_t (by unfold px_told; omega)]; rfl
  · rw [if_neg (show ¬ nI 4 < (0 : Int32) by decide), if_neg (show ¬ (5 : Int32) ≤ nI 4 by decide), show Ru_greatestB (nI 4) (nI a) = some (nI 0) from rfl, show gm_la 4 = (0 : Int32) from rfl, show gm_ga 4 = nI 3 from rfl, if_neg p0, if_neg p1]
    simp only [px_1, px_ltI (show 3 < 2 ^ 31 by decide) ha, px_ltI (show 0 < 2 ^ 31 by decide) hb]
    split
    · rw [px_tb_f (by unfold px_told; omega)]; rfl
    · split
      · rw [px_tb_f (by unfold px_told; omega)]; rfl
      · rw [px_tb_t (by unfold px_told; omega)]; rfl
theorem px_are_n {k a b : Nat} (hk : k < 5) (ha : a < 2 ^ 31) (hb : b < 2 ^ 31) : Mo_areOf (nI k) (nI a) (nI b) = some (nI (px_tb k a b).toNat) := by
  have key : ∀ (P : Prop) [Decidable P], (P ↔ px_told k a b) → some (nI (decide P).toNat) = some (nI (px_tb k a b).toNat) := fun P _ h => by
    by_cases c : P
    · rw [decide_eq_true c, px_tb_t (h.mp c)]
    · rw [decide_eq_false c, px_tb_f (fun q => c (h.mpr q))]
  have e0 : ∀ c : Nat, c ≤ 36 → Mo_in (nI a).toInt64 0 (lN c) = some (nI (decide (a ≤ c)).toNat) := fun c hc => by
    have := px_inN (a := a) (b := 0) (c := c) ha (by decide) (by omega)
    rw [show (lN 0 : Int64) = 0 from rfl] at this
    rw [this, decide_eq_decide.mpr (show (0 ≤ a ∧ a ≤ c) ↔ a ≤ c by omega)]
  have z0 : (nI b = (0 : Int32)) = (b = 0) := px_eq (b := 0) hb (by decide)
  unfold Mo_areOf
  rcases (show k = 0 ∨ k = 1 ∨ k = 2 ∨ k = 3 ∨ k = 4 by omega) with rfl | rfl | rfl | rfl | rfl
  · rw [if_pos (show nI 0 = (0 : Int32) from rfl), show (36 : Int64) = lN 36 from rfl, e0 36 (by omega), ← key (a ≤ 36 ∧ b = 0) (by unfold px_told; omega)]
    simp only [px_1, z0]
    by_cases c1 : a ≤ 36 <;> by_cases c2 : b = 0 <;> simp [c1, c2] <;> rfl
  · rw [if_neg (show ¬ nI 1 = (0 : Int32) by decide), if_pos (show nI 1 = (1 : Int32) from rfl), show (2 : Int64) = lN 2 from rfl, e0 2 (by omega), ← key (a ≤ 2 ∧ b = 0) (by unfold px_told; omega)]
    simp only [px_1, z0]
    by_cases c1 : a ≤ 2 <;> by_cases c2 : b = 0 <;> simp [c1, c2] <;> rfl
  · have e4 : Mo_in (nI b).toInt64 0 (lN 4) = some (nI (decide (b ≤ 4)).toNat) := by
      have := px_inN (a := b) (b := 0) (c := 4) hb (by decide) (by omega)
      rw [show (lN 0 : Int64) = 0 from rfl] at this
      rw [this, decide_eq_decide.mpr (show (0 ≤ b ∧ b ≤ 4) ↔ b ≤ 4 by omega)]
    rw [if_neg (show ¬ nI 2 = (0 : Int32) by decide), if_neg (show ¬ nI 2 = (1 : Int32) by decide), if_pos (show nI 2 = (2 : Int32) from rfl), show (9 : Int64) = lN 9 from rfl, e0 9 (by omega), show (4 : Int64) = lN 4 from rfl, e4, ← key (a ≤ 9 ∧ b ≤ 4) (by unfold px_told; omega)]
    simp only [px_1]
    by_cases c1 : a ≤ 9 <;> by_cases c2 : b ≤ 4 <;> simp [c1, c2] <;> rfl
  · have e3 : Mo_in (nI a).toInt64 (lN 2) (lN 12) = some (nI (decide (2 ≤ a ∧ a ≤ 12)).toNat) := px_inN ha (by decide) (by decide)
    rw [if_neg (show ¬ nI 3 = (0 : Int32) by decide), if_neg (show ¬ nI 3 = (1 : Int32) by decide), if_neg (show ¬ nI 3 = (2 : Int32) by decide), if_pos (show nI 3 = (3 : Int32) from rfl), show (2 : Int64) = lN 2 from rfl, show (12 : Int64) = lN 12 from rfl, e3]
    simp only [px_1]
    by_cases c1 : 2 ≤ a ∧ a ≤ 12
    · have e4 : Mo_in (nI b).toInt64 0 ((nI a - 1).toInt64) = some (nI (decide (0 ≤ b ∧ b ≤ a - 1)).toNat) := by
        rw [show nI a - 1 = nI (a - 1) from pk_sub (b := 1) (by omega), nI_l (n := a - 1) (by omega)]
        have := px_inN (a := b) (b := 0) (c := a - 1) hb (by decide) (by omega)
        rw [show (lN 0 : Int64) = 0 from rfl] at this
        exact this
      rw [e4, decide_eq_true c1]
      simp only [px_1, Bool.toNat_true, px_e1, if_false]
      rw [← key (0 ≤ b ∧ b ≤ a - 1) (by unfold px_told; omega)]
      by_cases c2 : 0 ≤ b ∧ b ≤ a - 1
      · rw [decide_eq_true c2]; rfl
      · rw [decide_eq_false c2]; rfl
    · rw [decide_eq_false c1, px_tb_f (by unfold px_told; omega)]; rfl
  · rw [if_neg (show ¬ nI 4 = (0 : Int32) by decide), if_neg (show ¬ nI 4 = (1 : Int32) by decide), if_neg (show ¬ nI 4 = (2 : Int32) by decide), if_neg (show ¬ nI 4 = (3 : Int32) by decide), if_pos (show nI 4 = (4 : Int32) from rfl), show (3 : Int64) = lN 3 from rfl, e0 3 (by omega), ← key (a ≤ 3 ∧ b = 0) (by unfold px_told; omega)]
    simp only [px_1, z0]
    by_cases c1 : a ≤ 3 <;> by_cases c2 : b = 0 <;> simp [c1, c2] <;> rfl
theorem px_may (x y z : Int32) : (Ru_mayBeTold x y z = some (nI 0) ∧ Mo_areOf x y z = some (nI 0)) ∨ (∃ k a b, px_told k a b ∧ x = nI k ∧ y = nI a ∧ z = nI b ∧ Ru_mayBeTold x y z = some (nI 1) ∧ Mo_areOf x y z = some (nI 1)) := by
  have i0 : ∀ (w : Int32) (Z : Int32), w < 0 → Mo_in w.toInt64 0 Z.toInt64 = some (nI 0) := fun w Z hw => by
    rw [px_in (Y := 0) w 0 Z rfl rfl]
    have := px_toI hw
    rw [show (0 : Int32).toInt = 0 from rfl, decide_eq_false (by omega)]; rfl
  rcases pk_ix x (n := 5) (by omega) with h | h | ⟨k, hk, rfl⟩
  · left
    refine ⟨by unfold Ru_mayBeTold; rw [if_pos h]; rfl, ?_⟩
    unfold Mo_areOf
    rw [if_neg (fun q => by subst q; revert h; decide), if_neg (fun q => by subst q; revert h; decide), if_neg (fun q => by subst q; revert h; decide), if_neg (fun q => by subst q; revert h; decide), if_neg (fun q => by subst q; revert h; decide)]; rfl
  · left
    refine ⟨?_, ?_⟩
    · unfold Ru_mayBeTold
      rw [if_neg (fun q => by have := px_toI q; have h2 := Int32.le_iff_toInt_le.mp h; rw [nI_toInt (by omega)] at h2; omega), if_pos (show (5 : Int32) ≤ x from h)]; rfl
    · unfold Mo_areOf
      rw [if_neg (fun q => by subst q; revert h; decide), if_neg (fun q => by subst q; revert h; decide), if_neg (fun q => by subst q; revert h; decide), if_neg (fun q => by subst q; revert h; decide), if_neg (fun q => by subst q; revert h; decide)]; rfl
  · by_cases cy : y < 0
    · left
      constructor
      · unfold Ru_mayBeTold
        have L0 : Ru_leastA (nI k) = some (gm_la k) := by
          rcases (show k = 0 ∨ k = 1 ∨ k = 2 ∨ k = 3 ∨ k = 4 by omega) with rfl | rfl | rfl | rfl | rfl <;> rfl
        have hl : y < gm_la k := by
          have h1 := px_toI cy
          apply Int32.lt_iff_toInt_lt.mpr
          have h2 : (0 : Int) ≤ (gm_la k).toInt := by
            rcases (show k = 0 ∨ k = 1 ∨ k = 2 ∨ k = 3 ∨ k = 4 by omega) with rfl | rfl | rfl | rfl | rfl <;> decide
          omega
        rw [if_neg (nI_pos (by omega)), if_neg (show ¬ (5 : Int32) ≤ nI k from nI_ge (b := 5) hk (by decide)), L0]
        simp only [px_1]
        rw [if_pos hl]; rfl
      · have j1 := i0 y 36 cy
        have j2 := i0 y 2 cy
        have j3 := i0 y 9 cy
        have j4 := i0 y 3 cy
        rw [show (36 : Int32).toInt64 = 36 from rfl] at j1
        rw [show (2 : Int32).toInt64 = 2 from rfl] at j2
        rw [show (9 : Int32).toInt64 = 9 from rfl] at j3
        rw [show (3 : Int32).toInt64 = 3 from rfl] at j4
        have j5 : Mo_in y.toInt64 2 12 = some (nI 0) := by
          rw [px_in (Y := 2) (Z := 12) y 2 12 rfl rfl]
          have := px_toI cy
          rw [show (2 : Int32).toInt = 2 from rfl, decide_eq_false (by omega)]; rfl
        unfold Mo_areOf
        rw [j1, j2, j3, j4, j5]
        rcases (show k = 0 ∨ k = 1 ∨ k = 2 ∨ k = 3 ∨ k = 4 by omega) with rfl | rfl | rfl | rfl | rfl <;> rfl
    · obtain ⟨a, ha, rfl⟩ := nI_of cy
      by_cases cz : z < 0
      · left
        constructor
        · have L0 : Ru_leastA (nI k) = some (gm_la k) := by
            rcases (show k = 0 ∨ k = 1 ∨ k = 2 ∨ k = 3 ∨ k = 4 by omega) with rfl | rfl | rfl | rfl | rfl <;> rfl
          have G0 : Ru_greatestA (nI k) = some (gm_ga k) := by
            rcases (show k = 0 ∨ k = 1 ∨ k = 2 ∨ k = 3 ∨ k = 4 by omega) with rfl | rfl | rfl | rfl | rfl <;> rfl
          unfold Ru_mayBeTold
          rw [L0, G0, if_pos cz]
          simp only [px_1]
          split
          · rfl
          · split
            · rfl
            · split
              · rfl
              · split
                · rfl
                · rfl
        · have z0 : ¬ z = 0 := fun q => by subst q; revert cz; decide
          have j1 := i0 z 4 cz
          have j2 := i0 z (nI a - 1) cz
          rw [show (4 : Int32).toInt64 = 4 from rfl] at j1
          unfold Mo_areOf
          rw [j1, j2]
          simp only [px_1, if_neg z0]
          have s1 := px_in (Y := 0) (Z := 36) (nI a) 0 36 rfl rfl
          have s2 := px_in (Y := 0) (Z := 2) (nI a) 0 2 rfl rfl
          have s3 := px_in (Y := 0) (Z := 9) (nI a) 0 9 rfl rfl
          have s4 := px_in (Y := 2) (Z := 12) (nI a) 2 12 rfl rfl
          have s5 := px_in (Y := 0) (Z := 3) (nI a) 0 3 rfl rfl
          rw [s1, s2, s3, s4, s5]
          simp only [px_1, ite_self, px_e0, if_true]
          rfl
      · obtain ⟨b, hb, rfl⟩ := nI_of cz
        rw [px_may_n hk ha hb, px_are_n hk ha hb]
        by_cases c : px_tb k a b = true
        · right
          refine ⟨k, a, b, px_tb_o c, rfl, rfl, rfl, by rw [c]; rfl, by rw [c]; rfl⟩
        · left
          rw [Bool.not_eq_true] at c
          exact ⟨by rw [c]; rfl, by rw [c]; rfl⟩
section PO3
variable {C M C2 M2 : gm_M} {d nr nn np : Nat} {kd g g2 : Nat → Nat} {fl : Nat}
theorem px_fol_R (hf : 20000 ≤ fl) (h0 : px_V0 d nr nn np kd) (h1 : px_V1 d nr nn g) (h2 : px_V1 d nr nn g2) (hC : px_CT C 8 d nr nn np kd g2) (hT : px_TB C d nr g) : ∃ C', Tb_follow fl C = some C' ∧ px_TB C' d nr g2 ∧ px_CT C' 8 d nr nn np kd g2 ∧ (∀ t, t ≠ 12 → t ≠ 18 → t ≠ 20 → t ≠ 21 → C'.1 t = C.1 t) ∧ (∀ t, (t < 14 ∨ 19 < t) → C'.2 t = C.2 t) := by
  have hd := px_V0_d h0
  obtain ⟨C', a1, a2, a3, a4⟩ := px_follow (fl := fl) (g := g2) (S := C) hf hd (fun q => by have := h0.2.2.2.2.1; have := h0.1; omega) h0.2.1 h2.1 h2.2.1 (px_TB_TO hT hd h0.2.1 h1.2.1) hC.1 hC.2.1 hC.2.2.2.1 hC.2.2.2.2.2.2.1
  exact ⟨C', a1, a2, px_CT_k hC (a3 _ (by omega) (by omega) (by omega) (by omega)) (a3 _ (by omega) (by omega) (by omega) (by omega)) (a3 _ (by omega) (by omega) (by omega) (by omega)) (a3 _ (by omega) (by omega) (by omega) (by omega)), a3, a4⟩
theorem px_allL (hf : 20000 ≤ fl) (hM : px_MT M d nr nn np kd g) (h0 : px_V0 d nr nn np kd) (h1 : px_V1 d nr nn g) : Mo_allLucky fl M = some (nI (px_cn (px_lk d nr g) (px_num d))) := by
  unfold Mo_allLucky
  rw [px_mall (fl := fl) hf hM h0 h1 px_none]
  rfl
theorem px_R_fol (hf : 20000 ≤ fl) (R : px_R1 C M d nr nn np kd g) (hV : px_V1 d nr nn g2) (hC : px_CT C2 8 d nr nn np kd g2) (hM : px_MT M2 d nr nn np kd g2) (fc : ∀ t, t ≠ 8 → t ≠ 9 → t ≠ 10 → t ≠ 11 → C2.1 t = C.1 t) (fc2 : C2.2 = C.2) (fm : ∀ t, t ≠ 2 → M2.1 t = M.1 t) : ∃ C', Tb_follow fl C2 = some C' ∧ C'.1 12 9 = nI (px_cn (px_lk d nr g2) (px_num d)) ∧ px_R1 C' M2 d nr nn np kd g2 := by
  obtain ⟨r0, r1, r2, r3, r4, r5, r6, r7, r8, r9, r10, r11⟩ := id R
  obtain ⟨C', a1, a2, a3, a4, a5⟩ := px_fol_R (fl := fl) hf r0 r1 hV hC (px_TB_k r4 (fc 12 (by omega) (by omega) (by omega) (by omega)) (fc 18 (by omega) (by omega) (by omega) (by omega)) (fun t _ _ => by rw [fc2]) r0.2.1)
  have q1 : ∀ t, (t < 8 ∨ 22 ≤ t) → C'.1 t = C.1 t := fun t ht => by rw [a4 t (by omega) (by omega) (by omega) (by omega), fc t (by omega) (by omega) (by omega) (by omega)]
  have q2 : ∀ t, (t < 14 ∨ 19 < t) → C'.2 t = C.2 t := fun t ht => by rw [a5 t ht, fc2]
  exact ⟨C', a1, a2.2.2.2.2.2.1, px_R_tram R (px_Un_k r8 (fun t _ _ => q1 t (by omega)) (by rw [fm 0 (by omega)]) (fm 10 (by omega))) hV a3 hM a2 (px_Sd_k r7 (by rw [q2 0 (by omega)]) (by rw [fm 0 (by omega)])) (by rw [q1 0 (by omega)]) (q1 2 (by omega)) (q1 3 (by omega)) (fun t _ _ => q1 t (by omega)) (fun t _ _ => q2 t (by omega)) (by rw [fm 0 (by omega)]) (by rw [fm 0 (by omega)]) (by rw [fm 0 (by omega)]) (by rw [fm 0 (by omega)]) (fun t ht => fm t (by omega))⟩
theorem ct_rule {r k a b : Nat} (h0 : px_V0 d nr nn np kd) (h : px_CT C 8 d nr nn np kd g) (hr : r < nr) : px_CT (gm_ui C 9 r (nI (px_code k a b))) 8 d nr nn np kd (va_up (va_up (va_up g (1 + r) k) (5 + r) a) (9 + r) b) := by
  obtain ⟨b0, b1, b2, b3, -⟩ := h0
  obtain ⟨h1, h2, h3, h4, h5, h6, h7, h8, h9⟩ := h
  have up : ∀ j, (j = 0 ∨ 13 ≤ j) → va_up (va_up (va_up g (1 + r) k) (5 + r) a) (9 + r) b j = g j := fun j hj => by rw [px_upn (by omega), px_upn (by omega), px_upn (by omega)]
  refine ⟨by rw [px_ui0 _ _ _ _ _ (by omega)]; exact h1, by rw [px_ui0 _ _ _ _ _ (by omega), up 0 (by omega)]; exact h2, by rw [px_ui0 _ _ _ _ _ (by omega), up 41 (by omega)]; exact h3, by rw [px_ui0 _ _ _ _ _ (by omega)]; exact h4, by rw [px_ui0 _ _ _ _ _ (by omega)]; exact h5, by rw [px_ui0 _ _ _ _ _ (by omega)]; exact h6, fun q hq => ?_, fun q hq => ?_, fun q hq => ?_⟩
  · rw [px_ui, if_pos rfl]
    unfold px_cd
    by_cases e : q = r
    · subst e
      rw [if_pos rfl, px_upn (show 1 + q ≠ 9 + q by omega), px_upn (show 1 + q ≠ 5 + q by omega), px_ups, px_upn (show 5 + q ≠ 9 + q by omega), px_ups, px_ups]
    · rw [if_neg e, px_upn (show 1 + q ≠ 9 + r by omega), px_upn (show 1 + q ≠ 5 + r by omega), px_upn (show 1 + q ≠ 1 + r by omega), px_upn (show 5 + q ≠ 9 + r by omega), px_upn (show 5 + q ≠ 5 + r by omega), px_upn (show 5 + q ≠ 1 + r by omega), px_upn (show 9 + q ≠ 9 + r by omega), px_upn (show 9 + q ≠ 5 + r by omega), px_upn (show 9 + q ≠ 1 + r by omega)]
      exact h7 q hq
  · rw [px_ui0 _ _ _ _ _ (by omega), up _ (by omega), up _ (by omega)]
    exact h8 q hq
  · rw [px_ui0 _ _ _ _ _ (by omega), up _ (by omega), up _ (by omega), up _ (by omega), up _ (by omega)]
    exact h9 q hq
theorem px_V1_rule {r k a b : Nat} (h : px_V1 d nr nn g) (hr : r < nr) (hnr : nr ≤ 4) (ht : px_told k a b) : px_V1 d nr nn (va_up (va_up (va_up g (1 + r) k) (5 + r) a) (9 + r) b) := by
  obtain ⟨a1, a2, a3, a4, a5, a6⟩ := h
  have up : ∀ j, (j = 0 ∨ 13 ≤ j) → va_up (va_up (va_up g (1 + r) k) (5 + r) a) (9 + r) b j = g j := fun j hj => by rw [px_upn (by omega), px_upn (by omega), px_upn (by omega)]
  refine ⟨by rw [up 0 (by omega)]; exact a1, fun q hq => ?_, fun q hq => by rw [up _ (by omega), up _ (by omega)]; exact a3 q hq, fun j h1 h2 => by rw [up _ (by omega)]; exact a4 j h1 h2, by rw [up _ (by omega)]; exact a5, fun p hp => by rw [up _ (by omega), up _ (by omega)]; exact a6 p hp⟩
  by_cases e : q = r
  · subst e
    rw [px_upn (show 1 + q ≠ 9 + q by omega), px_upn (show 1 + q ≠ 5 + q by omega), px_ups, px_upn (show 5 + q ≠ 9 + q by omega), px_ups, px_ups]
    exact ht
  · rw [px_upn (show 1 + q ≠ 9 + r by omega), px_upn (show 1 + q ≠ 5 + r by omega), px_upn (show 1 + q ≠ 1 + r by omega), px_upn (show 5 + q ≠ 9 + r by omega), px_upn (show 5 + q ≠ 5 + r by omega), px_upn (show 5 + q ≠ 1 + r by omega), px_upn (show 9 + q ≠ 9 + r by omega), px_upn (show 9 + q ≠ 5 + r by omega), px_upn (show 9 + q ≠ 1 + r by omega)]
    exact a2 q hq
theorem px_Ruc {k a b : Nat} : Ru_code (nI k) (nI a) (nI b) = some (nI (px_code k a b)) := by
  unfold Ru_code px_code
  rw [show (10000 : Int32) = nI 10000 from rfl, show (100 : Int32) = nI 100 from rfl, pk_mul, pk_mul, nI_add, nI_add]
theorem op_rule (a0 a1 a2 a3 : Int32) (hf : 20000 ≤ fl) (R : px_R C M) : ∃ x C' M', Lt_rule fl a0 a1 a2 a3 C = some (x, C') ∧ Mo_rule fl a0 a1 a2 a3 M = some (x, M') ∧ px_R C' M' := by
  obtain ⟨d, nr, nn, np, kd, g, R⟩ := id R
  obtain ⟨r0, r1, r2, r3, r4, r5, r6, r7, r8, r9, r10, r11⟩ := id R
  have hnr := r0.2.1
  unfold Lt_rule Mo_rule
  rcases px_hasRule a0 r2 r3 r0 with ⟨e1, e2⟩ | ⟨r, hr, rfl, e1, e2⟩
  · rw [e1, e2]
    simp only [px_1, px_e0, if_true]
    exact ⟨_, _, _, rfl, rfl, _, _, _, _, _, _, R⟩
  · rw [e1, e2]
    simp only [px_1, px_e1, if_false]
    rcases px_may a1 a2 a3 with ⟨e3, e4⟩ | ⟨k, a, b, ht, rfl, rfl, rfl, e3, e4⟩
    · rw [e3, e4]
      simp only [px_1, px_e0, if_true]
      exact ⟨_, _, _, rfl, rfl, _, _, _, _, _, _, R⟩
    · rw [e3, e4]
      simp only [px_1, px_e1, if_false]
      obtain ⟨C1, M1, b1, b2, R1⟩ := px_R_rem (fl := fl) hf R
      have c2 := ct_rule (r := r) (k := k) (a := a) (b := b) r0 R1.2.2.1 hr
      have t2 := mt_up (j := 9 + r) (a := b) (mt_up (j := 5 + r) (a := a) (mt_up (j := 1 + r) (a := k) R1.2.2.2.1 (by omega)) (by omega)) (by omega)
      have v2 := px_V1_rule (r := r) r1 hr hnr ht
      obtain ⟨C3, s1, s2, R3⟩ := px_R_fol (fl := fl) hf R1 v2 c2 t2 (fun t _ h _ _ => px_ui0 _ _ _ _ _ h) rfl (fun t h => by rw [px_ui0 _ _ _ _ _ h, px_ui0 _ _ _ _ _ h, px_ui0 _ _ _ _ _ h])
      rw [b1, b2, px_Ruc]
      simp only [px_1]
      rw [px_ck _ (by omega) (by decide), nI_clamp (by omega), show (1 : Int32) + nI r = nI (1 + r) from nI_add 1 r, show (5 : Int32) + nI r = nI (5 + r) from nI_add 5 r, show (9 : Int32) + nI r = nI (9 + r) from nI_add 9 r]
      simp only [px_lt]
      rw [s1, px_ck _ (by omega) (by decide), px_ck _ (by omega) (by decide), px_ck _ (by omega) (by decide), nI_clamp (by omega), nI_clamp (by omega), nI_clamp (by omega), px_allL hf t2 r0 v2]
      simp only [px_1]
      rw [s2]
      exact ⟨_, _, _, rfl, rfl, _, _, _, _, _, _, R3⟩
theorem ct_mode {a : Nat} (h : px_CT C 8 d nr nn np kd g) (h0 : px_V0 d nr nn np kd) : px_CT (gm_ui C 8 4 (nI a)) 8 d nr nn np kd (va_up g 0 a) := by
  obtain ⟨b0, b1, b2, b3, -⟩ := h0
  obtain ⟨h1, h2, h3, h4, h5, h6, h7, h8, h9⟩ := h
  refine ⟨by rw [px_ui, if_pos rfl, if_neg (by omega)]; exact h1, by rw [px_ui, if_pos rfl, if_pos rfl, px_ups], by rw [px_ui, if_pos rfl, if_neg (by omega), px_upn (by omega)]; exact h3, by rw [px_ui, if_pos rfl, if_neg (by omega)]; exact h4, by rw [px_ui, if_pos rfl, if_neg (by omega)]; exact h5, by rw [px_ui, if_pos rfl, if_neg (by omega)]; exact h6, fun q hq => ?_, fun q hq => ?_, fun q hq => ?_⟩
  · rw [px_ui0 _ _ _ _ _ (by omega)]
    unfold px_cd
    rw [px_upn (by omega), px_upn (by omega), px_upn (by omega)]
    exact h7 q hq
  · rw [px_ui0 _ _ _ _ _ (by omega), px_upn (by omega), px_upn (by omega)]
    exact h8 q hq
  · rw [px_ui0 _ _ _ _ _ (by omega), px_upn (by omega), px_upn (by omega), px_upn (by omega), px_upn (by omega)]
    exact h9 q hq
theorem px_V1_mode {a : Nat} (h : px_V1 d nr nn g) (ha : a ≤ 1) : px_V1 d nr nn (va_up g 0 a) := by
  obtain ⟨a1, a2, a3, a4, a5, a6⟩ := h
  exact ⟨by rw [px_ups]; exact ha, fun q hq => by rw [px_upn (by omega), px_upn (by omega), px_upn (by omega)]; exact a2 q hq, fun q hq => by rw [px_upn (by omega), px_upn (by omega)]; exact a3 q hq, fun j h1 h2 => by rw [px_upn (by omega)]; exact a4 j h1 h2, by rw [px_upn (by omega)]; exact a5, fun p hp => by rw [px_upn (by omega), px_upn (by omega)]; exact a6 p hp⟩
theorem px_mode1 {a : Nat} (hf : 20000 ≤ fl) (ha : a ≤ 1) (R : px_R1 C M d nr nn np kd g) (hd : 0 < d) (hne : g 0 ≠ a) : ∃ x C1 C' M1 M', Ps_remember C = some C1 ∧ Tb_follow fl (gm_ui C1 8 4 (nI a)) = some C' ∧ C'.1 12 9 = x ∧ Mo_remember fl M = some M1 ∧ M' = gm_ui M1 2 0 (nI a) ∧ Mo_allLucky fl M' = some x ∧ px_R C' M' := by
  obtain ⟨C1, M1, b1, b2, R1⟩ := px_R_rem (fl := fl) hf R
  have c2 := ct_mode (a := a) R1.2.2.1 R1.1
  have t2 := mt_up (j := 0) (a := a) R1.2.2.2.1 (by omega)
  have v2 := px_V1_mode (a := a) R1.2.1 ha
  obtain ⟨C3, s1, s2, R3⟩ := px_R_fol (fl := fl) hf R1 v2 c2 t2 (fun t h _ _ _ => px_ui0 _ _ _ _ _ h) rfl (fun t h => by rw [px_ui0 _ _ _ _ _ h])
  exact ⟨_, C1, C3, M1, _, b1, s1, s2, b2, rfl, px_allL hf t2 R1.1 v2, _, _, _, _, _, _, R3⟩
theorem op_mode (a0 : Int32) (hf : 20000 ≤ fl) (R : px_R C M) : ∃ x C' M', Lt_mode fl a0 C = some (x, C') ∧ Mo_mode fl a0 M = some (x, M') ∧ px_R C' M' := by
  obtain ⟨d, nr, nn, np, kd, g, R⟩ := id R
  obtain ⟨r0, r1, r2, r3, r4, r5, r6, r7, r8, r9, r10, r11⟩ := id R
  have hd := px_V0_d r0
  have hg := r1.1
  have i1 := px_in (Y := 0) (Z := 1) a0 0 1 rfl rfl
  unfold Lt_mode Mo_mode
  rw [i1, show (0 : Int32).toInt = 0 from rfl, show (1 : Int32).toInt = 1 from rfl, r2.1, r2.2.1, r3.1]
  simp only [px_1]
  rw [show (0 : Int32) = nI 0 from rfl, px_ck _ (by omega) (by decide), nI_clamp (by omega), px_mrow r3 (by omega)]
  by_cases c0 : a0 = nI 0
  · subst c0
    rw [if_pos rfl, decide_eq_true (by decide), if_neg (show ¬ nI (true.toNat) = nI 0 by decide)]
    by_cases d0 : d = 0
    · rw [if_pos (by rw [d0]), if_pos (by rw [d0])]
      exact ⟨_, _, _, rfl, rfl, _, _, _, _, _, _, R⟩
    · have d0' : ¬ nI d = nI 0 := fun q => d0 ((nI_eq (by omega) (by omega)).mp q)
      rw [if_neg d0', if_neg d0']
      by_cases e : g 0 = 0
      · rw [if_pos (by rw [e]), if_pos (by rw [e])]
        exact ⟨_, _, _, rfl, rfl, _, _, _, _, _, _, R⟩
      · have e' : ¬ nI (g 0) = nI 0 := fun q => e ((nI_eq (by omega) (by omega)).mp q)
        obtain ⟨x, C1, C3, M1, M3, b1, b2, b3, b4, b5, b6, R3⟩ := px_mode1 (a := 0) hf (by omega) R (by omega) e
        rw [if_neg e', if_neg e', b1, b4]
        simp only [px_1, px_lt]
        rw [b2, px_ck _ (by omega) (by decide), ← b5, b6]
        simp only [px_1]
        rw [b3]
        exact ⟨_, _, _, rfl, rfl, R3⟩
  · rw [if_neg c0]
    by_cases c1 : a0 = 1
    · subst c1
      rw [if_pos rfl, show (1 : Int32).toInt = 1 from rfl, decide_eq_true (by decide), if_neg (show ¬ nI (true.toNat) = nI 0 by decide)]
      by_cases d0 : d = 0
      · rw [if_pos (by rw [d0]), if_pos (by rw [d0])]
        exact ⟨_, _, _, rfl, rfl, _, _, _, _, _, _, R⟩
      · have d0' : ¬ nI d = nI 0 := fun q => d0 ((nI_eq (by omega) (by omega)).mp q)
        rw [if_neg d0', if_neg d0']
        by_cases e : g 0 = 1
        · rw [if_pos (by rw [e]; rfl), if_pos (by rw [e]; rfl)]
          exact ⟨_, _, _, rfl, rfl, _, _, _, _, _, _, R⟩
        · have e' : ¬ nI (g 0) = (1 : Int32) := fun q => e ((nI_eq (b := 1) (by omega) (by omega)).mp q)
          obtain ⟨x, C1, C3, M1, M3, b1, b2, b3, b4, b5, b6, R3⟩ := px_mode1 (a := 1) hf (by omega) R (by omega) e
          rw [show nI 1 = (1 : Int32) from rfl] at b2 b5
          rw [if_neg e', if_neg e', b1, b4]
          simp only [px_1, px_lt]
          rw [b2, px_ck _ (by omega) (by decide), ← b5, b6]
          simp only [px_1]
          rw [b3]
          exact ⟨_, _, _, rfl, rfl, R3⟩
    · rw [if_neg c1, decide_eq_false (by
        intro q
        rcases (show a0.toInt = 0 ∨ a0.toInt = 1 by omega) with z | z
        · exact c0 (Int32.toInt_inj.mp z)
        · exact c1 (Int32.toInt_inj.mp z)), if_pos (show nI (false.toNat) = nI 0 from rfl)]
      exact ⟨_, _, _, rfl, rfl, _, _, _, _, _, _, R⟩
end PO3
