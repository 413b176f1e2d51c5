theorem px_up41 (g : Nat → Nat) (j : Nat) : va_up g j (g j) = g := by
  funext i
  unfold va_up
  by_cases e : i = j
  · rw [if_pos e, e]
  · rw [if_neg e]
section PO
variable {C M C2 M2 : gm_M} {d nr nn np : Nat} {kd g g2 : Nat → Nat} {fl : Nat}
theorem px_R_tram (R : px_R1 C M d nr nn np kd g) (hU : px_Un C2 M2 d nr nn np kd) (hV : px_V1 d nr nn g2) (hC : px_CT C2 8 d nr nn np kd g2) (hM : px_MT M2 d nr nn np kd g2) (hT : px_TB C2 d nr g2) (hS : px_Sd C2 M2) (f0 : C2.1 0 8 = C.1 0 8) (f2 : C2.1 2 = C.1 2) (f3 : C2.1 3 = C.1 3) (f88 : ∀ t, 88 ≤ t → t < 106 → C2.1 t = C.1 t) (fj : ∀ t, 96 ≤ t → t < 106 → C2.2 t = C.2 t) (m9 : M2.1 0 9 = M.1 0 9) (m10 : M2.1 0 10 = M.1 0 10) (m29 : M2.1 0 29 = M.1 0 29) (m32 : M2.1 0 32 = M.1 0 32) (mt : ∀ t, (t = 3 ∨ (11 ≤ t ∧ t ≤ 16)) → M2.1 t = M.1 t) : px_R1 C2 M2 d nr nn np kd g2 := by
  obtain ⟨r0, r1, r2, r3, r4, r5, r6, r7, r8, r9, r10, r11⟩ := R
  exact ⟨r0, hV, hC, hM, hT, px_Tx_k r5 f2 f3 m9 (mt 3 (by omega)), px_Fl_k r6 f0 m10, hS, hU, px_Im_k r9 (fun t a b => f88 t (by omega) b) fj (mt 15 (by omega)) (mt 16 (by omega)), px_Gu_k r10 (f88 88 (by omega) (by omega)) (f88 89 (by omega) (by omega)) m29 (mt 11 (by omega)) (mt 12 (by omega)), px_Bo_k r11 (f88 92 (by omega) (by omega)) (f88 93 (by omega) (by omega)) (f88 94 (by omega) (by omega)) m32 (mt 13 (by omega)) (mt 14 (by omega))⟩
theorem px_MT_k (h : px_MT M d nr nn np kd g) (m0 : ∀ k, k < 5 → M2.1 0 k = M.1 0 k) (m1 : M2.1 1 = M.1 1) (m2 : M2.1 2 = M.1 2) : px_MT M2 d nr nn np kd g := by
  unfold px_MT
  rw [m0 0 (by omega), m0 1 (by omega), m0 2 (by omega), m0 3 (by omega), m0 4 (by omega), m1, m2]
  exact h
theorem px_R_rem (hf : 20000 ≤ fl) (R : px_R1 C M d nr nn np kd g) : ∃ C' M', Ps_remember C = some C' ∧ Mo_remember fl M = some M' ∧ px_R1 C' M' d nr nn np kd g := by
  obtain ⟨r0, r1, r2, r3, r4, r5, r6, r7, r8, r9, r10, r11⟩ := id R
  obtain ⟨C', M', a1, a2, a3, a4, a5, a6, a7⟩ := px_rem (fl := fl) hf r0 r1 r2 r3 r8
  refine ⟨C', M', a1, a2, px_R_tram R a3 r1 (px_CT_k r2 (a4 _ (by omega)) (a4 _ (by omega)) (a4 _ (by omega)) (a4 _ (by omega))) (px_MT_k r3 (fun k hk => a6 k (by omega)) (a7 1 (by omega) (by omega)) (a7 2 (by omega) (by omega))) (px_TB_k r4 (a4 12 (by omega)) (a4 18 (by omega)) (fun t _ _ => by rw [a5]) r0.2.1) (px_Sd_k r7 (by rw [a5]) (a6 7 (by omega))) (by rw [a4 0 (by omega)]) (a4 2 (by omega)) (a4 3 (by omega)) (fun t h _ => a4 t (by omega)) (fun t _ _ => by rw [a5]) (a6 9 (by omega)) (a6 10 (by omega)) (a6 29 (by omega)) (a6 32 (by omega)) (fun t ht => a7 t (by omega) (by omega))⟩
theorem px_R_sell1 {r p : Nat} (hf : 20000 ≤ fl) (R : px_R1 C M d nr nn np kd g) (hr : r < nn) (hp : p < np) (hl : 0 < g (17 + r)) : ∃ C' M' g', Lt_sellOne fl (nI r) (nI p) C = some (nI (px_lk d nr g (g (13 + r))).toNat, C') ∧ Mo_sellNow fl (nI r) (nI p) M = some (nI (g (13 + r)), M') ∧ px_R1 C' M' d nr nn np kd g' ∧ (∀ j, j < 13 → g' j = g j) ∧ g' (17 + r) = g (17 + r) - 1 := by
  obtain ⟨r0, r1, r2, r3, r4, r5, r6, r7, r8, r9, r10, r11⟩ := id R
  obtain ⟨C', M', g', a1, a2, a3, a4, a5, a6, a7, a8, a9, a10, a11⟩ := px_sell1 (fl := fl) (z := g 41) r1.2.2.2.2.1 hf r0 r1 r2 (by rw [px_up41]; exact r3) r4 hr hp hl
  rw [← a7, px_up41] at a4
  refine ⟨C', M', g', a1, a2, px_R_tram R (px_Un_k r8 (fun t _ _ => a9 t (by omega) (by omega)) (by rw [a11 0 (by omega)]) (a11 10 (by omega))) a5 a3 a4 (px_TB_g a6 r0.2.1 (px_TB_k r4 (a9 12 (by omega) (by omega)) (a9 18 (by omega) (by omega)) (fun t _ _ => by rw [a10]) r0.2.1)) (px_Sd_k r7 (by rw [a10]) (by rw [a11 0 (by omega)])) (by rw [a9 0 (by omega) (by omega)]) (a9 2 (by omega) (by omega)) (a9 3 (by omega) (by omega)) (fun t _ _ => a9 t (by omega) (by omega)) (fun t _ _ => by rw [a10]) (by rw [a11 0 (by omega)]) (by rw [a11 0 (by omega)]) (by rw [a11 0 (by omega)]) (by rw [a11 0 (by omega)]) (fun t ht => a11 t (by omega)), a6, a8⟩
theorem op_sell (a0 a1 : Int32) (hf : 20000 ≤ fl) (R : px_R C M) : ∃ x C' M', Lt_sell fl a0 a1 C = some (x, C') ∧ Mo_sell fl a0 a1 M = some (x, M') ∧ px_R C' M' := by
  obtain ⟨d, nr, nn, np, kd, g, R⟩ := id R
  obtain ⟨r0, r1, r2, r3, r4, r5, r6, r7, r8, r9, r10, r11⟩ := id R
  have hnn := r0.2.2.1
  unfold Lt_sell Mo_sell
  rcases px_hasRoll a0 r2 r3 r0 with ⟨e1, e2⟩ | ⟨r, hr, rfl, e1, e2⟩
  · rw [e1, e2]
    simp only [px_1, px_e0, if_true]
    exact ⟨_, _, _, rfl, rfl, _, _, _, _, _, _, R⟩
  · rw [e1, e2]
    simp only [px_1, px_e1, if_false]
    rcases px_hasRider a1 r2 r3 r0 with ⟨e3, e4⟩ | ⟨p, hp, rfl, e3, e4⟩
    · rw [e3, e4]
      simp only [px_1, px_e0, if_true]
      exact ⟨_, _, _, rfl, rfl, _, _, _, _, _, _, R⟩
    · rw [e3, e4]
      simp only [px_1, px_e1, if_false]
      obtain ⟨hat, hle⟩ := r1.2.2.1 r hr
      rw [(px_left r2 r0 hr).1, show (17 : Int32) + nI r = nI (17 + r) from nI_add 17 r, px_ck _ (by omega) (by decide), nI_clamp (by omega), px_mrow r3 (by omega)]
      simp only [px_1]
      by_cases c : g (17 + r) = 0
      · rw [if_pos (by rw [c]; rfl), if_pos (by rw [c]; rfl)]
        exact ⟨_, _, _, rfl, rfl, _, _, _, _, _, _, R⟩
      · have c' : ¬ nI (g (17 + r)) = (0 : Int32) := fun q => c ((nI_eq (b := 0) (by omega) (by omega)).mp q)
        rw [if_neg c', if_neg c']
        obtain ⟨C1, M1, b1, b2, R1⟩ := px_R_rem (fl := fl) hf R
        obtain ⟨C2, M2, g2, s1, s2, R2, -⟩ := px_R_sell1 (fl := fl) (r := r) (p := p) hf R1 hr hp (by omega)
        rw [b1, b2]
        simp only [px_1]
        rw [(px_left R1.2.2.1 r0 hr).2]
        simp only [px_1]
        rw [s1, s2]
        exact ⟨_, _, _, rfl, rfl, _, _, _, _, _, _, R2⟩
theorem px_line_L {r n : Nat} (hf : 20000 ≤ fl) (hr : r < nn) (hn : n ≤ 60) (hnp : 0 < np) : ∀ (m i c : Nat) (C M : gm_M) (g : Nat → Nat), px_R1 C M d nr nn np kd g → i ≤ n → c ≤ i → n - i ≤ g (17 + r) → n - i < m → ∃ x C' M' g', Lt_line_L69 fl (nI r) (nI n) m (nI c) (nI i) C = some (x, C') ∧ Mo_line_L59 fl (nI r) (nI n) m (nI c) (nI i) M = some (x, M') ∧ px_R1 C' M' d nr nn np kd g' := by
  intro m
  induction m with
  | zero => intro i c C M g _ _ _ _ h; omega
  | succ m ih =>
    intro i c C M g R hi hc hg hm
    have hnp5 := R.1.2.2.2.1
    have e1 : Lt_line_L69 fl (nI r) (nI n) (m + 1) (nI c) (nI i) C = Lt_line_L69_b fl (nI r) (nI n) (Lt_line_L69 fl (nI r) (nI n) m) (nI c) (nI i) C := rfl
    have e2 : Mo_line_L59 fl (nI r) (nI n) (m + 1) (nI c) (nI i) M = Mo_line_L59_b fl (nI r) (nI n) (Mo_line_L59 fl (nI r) (nI n) m) (nI c) (nI i) M := rfl
    rw [e1, e2]
    unfold Lt_line_L69_b Mo_line_L59_b
    rw [R.2.2.1.2.2.2.2.2.1, R.2.2.2.1.2.2.2.2.1]
    by_cases cc : n ≤ i
    · rw [if_pos ((nI_leI (by omega) (by omega)).mpr cc), if_pos ((nI_leI (by omega) (by omega)).mpr cc)]
      exact ⟨_, _, _, _, rfl, rfl, R⟩
    · have cc' : ¬ nI n ≤ nI i := fun q => cc ((nI_leI (by omega) (by omega)).mp q)
      have np' : ¬ nI np = (0 : Int32) := fun q => by have := (nI_eq (b := 0) (by omega) (by omega)).mp q; omega
      have hmod : i % np < np := Nat.mod_lt _ hnp
      rw [if_neg cc', if_neg cc', if_neg np', if_neg np', px_rm (by omega) hnp (by omega)]
      obtain ⟨C2, M2, g2, s1, s2, R2, q1, q2⟩ := px_R_sell1 (fl := fl) (r := r) (p := i % np) hf R hr hmod (by omega)
      have hat := (R.2.1.2.2.1 r hr).1
      have hn4 := px_num_le (px_V0_d R.1)
      have hml := px_mlk (fl := fl) (n := g (13 + r)) (by omega) R2.2.2.2.1 R2.1 R2.2.1 (by omega)
      rw [px_lk_g q1 R.1.2.1] at hml
      rw [s1, s2]
      simp only [px_2]
      rw [hml]
      simp only [px_1, px_lt]
      rw [show nI i + 1 = nI (i + 1) from nI_1 i]
      cases px_lk d nr g (g (13 + r))
      · simp only [Bool.toNat_false, px_e0, if_true, px_1]
        rw [show nI c + 0 = nI c from nI_add c 0]
        exact ih (i + 1) c C2 M2 g2 R2 (by omega) (by omega) (by omega) (by omega)
      · simp only [Bool.toNat_true, px_e1, if_false, px_1]
        rw [show nI c + 1 = nI (c + 1) from nI_1 c]
        exact ih (i + 1) (c + 1) C2 M2 g2 R2 (by omega) (by omega) (by omega) (by omega)
theorem op_line (a0 a1 : Int32) (hf : 20000 ≤ fl) (R : px_R C M) : ∃ x C' M', Lt_line fl a0 a1 C = some (x, C') ∧ Mo_line fl a0 a1 M = some (x, M') ∧ px_R C' M' := by
  obtain ⟨d, nr, nn, np, kd, g, R⟩ := id R
  obtain ⟨r0, r1, r2, r3, r4, r5, r6, r7, r8, r9, r10, r11⟩ := id R
  have hnn := r0.2.2.1
  have hnp := r0.2.2.2.1
  unfold Lt_line Mo_line
  rcases px_hasRoll a0 r2 r3 r0 with ⟨e1, e2⟩ | ⟨r, hr, rfl, e1, e2⟩
  · rw [e1, e2]
    simp only [px_1, px_e0, if_true]
    exact ⟨_, _, _, rfl, rfl, _, _, _, _, _, _, R⟩
  · rw [e1, e2]
    simp only [px_1, px_e1, if_false]
    have i1 := px_in (Y := 1) (Z := 60) a1 1 60 rfl rfl
    rw [i1, show (1 : Int32).toInt = 1 from rfl, show (60 : Int32).toInt = 60 from rfl]
    simp only [px_1]
    by_cases b1 : a1 < 1
    · have b2 := Int32.lt_iff_toInt_lt.mp b1
      rw [show (1 : Int32).toInt = 1 from rfl] at b2
      rw [if_pos b1, decide_eq_false (by omega)]
      exact ⟨_, _, _, rfl, rfl, _, _, _, _, _, _, R⟩
    · rw [if_neg b1]
      have b2 := Int32.le_iff_toInt_le.mp (Int32.not_lt.mp b1)
      rw [show (1 : Int32).toInt = 1 from rfl] at b2
      by_cases b3 : a1 ≤ 60
      · have b4 := Int32.le_iff_toInt_le.mp b3
        rw [show (60 : Int32).toInt = 60 from rfl] at b4
        obtain ⟨n, hn, rfl⟩ := nI_of (x := a1) (fun q => by have := px_toI q; omega)
        rw [nI_toInt hn] at b2 b4
        rw [if_pos b3, nI_toInt hn, decide_eq_true (by omega)]
        simp only [Bool.toNat_true, px_e1, if_false]
        obtain ⟨hat, hle⟩ := r1.2.2.1 r hr
        rw [r2.2.2.2.2.2.1, r3.2.2.2.2.1, (px_left r2 r0 hr).1, show (17 : Int32) + nI r = nI (17 + r) from nI_add 17 r, px_ck _ (by omega) (by decide), nI_clamp (by omega), px_mrow r3 (by omega)]
        simp only [px_1]
        by_cases c0 : np = 0
        · rw [if_pos (by rw [c0]; rfl), if_pos (by rw [c0]; rfl)]
          exact ⟨_, _, _, rfl, rfl, _, _, _, _, _, _, R⟩
        · have np' : ¬ nI np = (0 : Int32) := fun q => by have := (nI_eq (b := 0) (by omega) (by omega)).mp q; omega
          rw [if_neg np', if_neg np']
          by_cases c1 : n ≤ g (17 + r)
          · have c1' : nI n ≤ nI (g (17 + r)) := (nI_leI (by omega) (by omega)).mpr c1
            rw [if_pos c1', if_pos c1']
            obtain ⟨C1, M1, q1, q2, R1⟩ := px_R_rem (fl := fl) hf R
            obtain ⟨x, C2, M2, g2, s1, s2, R2⟩ := px_line_L (fl := fl) (r := r) (n := n) hf hr (by omega) (by omega) fl 0 0 C1 M1 g R1 (by omega) (by omega) (by omega) (by omega)
            have s1 : Lt_line_L69 fl (nI r) (nI n) fl 0 0 C1 = some (x, C2) := s1
            have s2 : Mo_line_L59 fl (nI r) (nI n) fl 0 0 M1 = some (x, M2) := s2
            rw [q1, q2]
            simp only [px_1]
            rw [s1, s2]
            exact ⟨_, _, _, rfl, rfl, _, _, _, _, _, _, R2⟩
          · have c1' : ¬ nI n ≤ nI (g (17 + r)) := fun q => c1 ((nI_leI (by omega) (by omega)).mp q)
            rw [if_neg c1', if_neg c1']
            exact ⟨_, _, _, rfl, rfl, _, _, _, _, _, _, R⟩
      · have b4 : ¬ a1.toInt ≤ 60 := fun q => b3 (Int32.le_iff_toInt_le.mpr q)
        rw [if_neg b3, decide_eq_false (by omega)]
        exact ⟨_, _, _, rfl, rfl, _, _, _, _, _, _, R⟩
end PO
