section PO4
variable {C M C2 M2 : gm_M} {d nr nn np : Nat} {kd g g2 : Nat → Nat} {fl : Nat}
theorem px_undo_L {u : Nat} (hu : u < 16) (M0 : gm_M) : ∀ (m k : Nat) (S : gm_M), k ≤ 42 → 42 - k < m → M0.1 0 27 = nI u → (∀ j, j < k → S.1 2 j = M0.1 10 (42 * u + j)) → (∀ t, t ≠ 2 → S.1 t = M0.1 t) → ∃ S', Mo_undo_L23 m (nI k) S = some S' ∧ (∀ j, j < 42 → S'.1 2 j = M0.1 10 (42 * u + j)) ∧ (∀ t, t ≠ 2 → S'.1 t = M0.1 t) := by
  intro m
  induction m with
  | zero => intro k S _ h; omega
  | succ m ih =>
    intro k S h2 hm h27 q1 q3
    have e : Mo_undo_L23 (m + 1) (nI k) S = Mo_undo_L23_b (Mo_undo_L23 m) (nI k) S := rfl
    rw [e]
    unfold Mo_undo_L23_b
    have s27 : S.1 0 27 = nI u := by rw [q3 0 (by omega)]; exact h27
    rw [s27]
    by_cases c : 42 ≤ k
    · have : k = 42 := by omega
      subst this
      refine ⟨S, by simp (disch := omega) only [px_lit, px_litL, px_lt, px_1, px_2, px_3, px_ck, px_rm, px_le, px_ltI, px_eq, px_ne1, nI_add, pk_mul, pk_sub, pk_div, nI_clamp, px_ui, px_ui2, px_uj1, px_uj, px_uf, px_uf2, if_pos, if_neg, if_true, if_false, ↓reduceIte], q1, q3⟩
    · obtain ⟨S', a1, a2, a3⟩ := ih (k + 1) (gm_ui S 2 k (S.1 10 (42 * u + k))) (by omega) (by omega) h27 (fun j hj => by
          rw [px_ui, if_pos rfl]
          by_cases ej : j = k
          · rw [if_pos ej, ej, q3 10 (by omega)]
          · rw [if_neg ej]; exact q1 j (by omega)) (fun t ht => by rw [px_ui0 _ _ _ _ _ ht]; exact q3 t ht)
      refine ⟨S', ?_, a2, a3⟩
      simp (disch := omega) only [px_lit, px_le, px_lt, px_ck, nI_clamp, nI_add, pk_mul, if_neg]
      exact a1
theorem px_back_L {i : Nat} (hi : i < 2) (M0 : gm_M) : ∀ (m k : Nat) (S : gm_M), k ≤ 42 → 42 - k < m → (∀ j, j < k → S.1 2 j = M0.1 15 (43 * i + j)) → (∀ t, t ≠ 2 → S.1 t = M0.1 t) → ∃ S', Mo_goBack_L28 (nI i) m (nI k) S = some S' ∧ (∀ j, j < 42 → S'.1 2 j = M0.1 15 (43 * i + j)) ∧ (∀ t, t ≠ 2 → S'.1 t = M0.1 t) := by
  intro m
  induction m with
  | zero => intro k S _ h; omega
  | succ m ih =>
    intro k S h2 hm q1 q3
    have e : Mo_goBack_L28 (nI i) (m + 1) (nI k) S = Mo_goBack_L28_b (nI i) (Mo_goBack_L28 (nI i) m) (nI k) S := rfl
    rw [e]
    unfold Mo_goBack_L28_b
    by_cases c : 42 ≤ k
    · have : k = 42 := by omega
      subst this
      refine ⟨S, by simp (disch := omega) only [px_lit, px_litL, px_lt, px_1, px_2, px_3, px_ck, px_rm, px_le, px_ltI, px_eq, px_ne1, nI_add, pk_mul, pk_sub, pk_div, nI_clamp, px_ui, px_ui2, px_uj1, px_uj, px_uf, px_uf2, if_pos, if_neg, if_true, if_false, ↓reduceIte], q1, q3⟩
    · obtain ⟨S', a1, a2, a3⟩ := ih (k + 1) (gm_ui S 2 k (S.1 15 (43 * i + k))) (by omega) (by omega) (fun j hj => by
          rw [px_ui, if_pos rfl]
          by_cases ej : j = k
          · rw [if_pos ej, ej, q3 15 (by omega)]
          · rw [if_neg ej]; exact q1 j (by omega)) (fun t ht => by rw [px_ui0 _ _ _ _ _ ht]; exact q3 t ht)
      refine ⟨S', ?_, a2, a3⟩
      simp (disch := omega) only [px_lit, px_le, px_lt, px_ck, nI_clamp, nI_add, pk_mul, if_neg]
      exact a1
theorem px_keep_L {i : Nat} (hi : i < 2) (M0 : gm_M) : ∀ (m k : Nat) (S : gm_M), k ≤ 42 → 42 - k < m → (∀ j, j < k → S.1 15 (43 * i + j) = M0.1 2 j) → (∀ j, (j < 43 * i ∨ 43 * i + k ≤ j) → S.1 15 j = M0.1 15 j) → (∀ t, t ≠ 15 → S.1 t = M0.1 t) → ∃ S', Mo_keep_L15 (nI i) m (nI k) S = some S' ∧ (∀ j, j < 42 → S'.1 15 (43 * i + j) = M0.1 2 j) ∧ (∀ j, (j < 43 * i ∨ 43 * i + 42 ≤ j) → S'.1 15 j = M0.1 15 j) ∧ (∀ t, t ≠ 15 → S'.1 t = M0.1 t) := by
  intro m
  induction m with
  | zero => intro k S _ h; omega
  | succ m ih =>
    intro k S h2 hm q1 q2 q3
    have e : Mo_keep_L15 (nI i) (m + 1) (nI k) S = Mo_keep_L15_b (nI i) (Mo_keep_L15 (nI i) m) (nI k) S := rfl
    rw [e]
    unfold Mo_keep_L15_b
    by_cases c : 42 ≤ k
    · have : k = 42 := by omega
      subst this
      refine ⟨S, by simp (disch := omega) only [px_lit, px_litL, px_lt, px_1, px_2, px_3, px_ck, px_rm, px_le, px_ltI, px_eq, px_ne1, nI_add, pk_mul, pk_sub, pk_div, nI_clamp, px_ui, px_ui2, px_uj1, px_uj, px_uf, px_uf2, if_pos, if_neg, if_true, if_false, ↓reduceIte], q1, fun j hj => q2 j (by omega), q3⟩
    · obtain ⟨S', a1, a2, a3, a4⟩ := ih (k + 1) (gm_ui S 15 (43 * i + k) (S.1 2 k)) (by omega) (by omega) (fun j hj => by
          rw [px_ui, if_pos rfl]
          by_cases ej : j = k
          · rw [if_pos (by omega), ej, q3 2 (by omega)]
          · rw [if_neg (by omega)]; exact q1 j (by omega)) (fun j hj => by
          rw [px_ui, if_pos rfl, if_neg (by omega)]
          exact q2 j (by omega)) (fun t ht => by rw [px_ui0 _ _ _ _ _ ht]; exact q3 t ht)
      refine ⟨S', ?_, a2, a3, a4⟩
      simp (disch := omega) only [px_lit, px_le, px_lt, px_ck, nI_clamp, nI_add, pk_mul, if_neg]
      exact a1
theorem op_undo (hf : 20000 ≤ fl) (R : px_R C M) : ∃ x C' M', Lt_undo fl C = some (x, C') ∧ Mo_undo fl M = some (x, M') ∧ px_R C' M' := by
  obtain ⟨d, nr, nn, np, kd, g, R⟩ := id R
  obtain ⟨r0, r1, r2, r3, r4, r5, r6, r7, r8, r9, r10, r11⟩ := id R
  obtain ⟨u, w, pg, hu, hw, c1, c2, m1, hp⟩ := id r8
  unfold Lt_undo Mo_undo
  rw [c2, m1]
  by_cases e : u = 0
  · rw [if_pos (by rw [e]; rfl), if_pos (by rw [e]; rfl)]
    exact ⟨_, _, _, rfl, rfl, _, _, _, _, _, _, R⟩
  · have e' : ¬ nI u = (0 : Int32) := fun q => e ((nI_eq (b := 0) (by omega) (by omega)).mp q)
    rw [if_neg e', if_neg e']
    obtain ⟨p1, p2, p3⟩ := hp (u - 1) (by omega)
    rw [show (w + 17 + (u - 1) - u) % 16 = w by omega] at p2
    obtain ⟨C4, a1, a2, a3, a4⟩ := px_copy_CT (t := 8) (o := 24 + 4 * w) (S := C) (Or.inl (by omega)) r0.2.1 r0.2.2.1 r0.2.2.2.1 p2
    have hx : (if nI w ≤ (0 : Int32) then (some 15 : Option Int32) else some (nI w - 1)) = some (nI ((w + 15) % 16)) := by
      by_cases c : w = 0
      · subst c; rfl
      · rw [if_neg (nI_nle (by omega) (by omega)), show nI w - 1 = nI (w - 1) from pk_sub (b := 1) (by omega), show (w + 15) % 16 = w - 1 by omega]
    have tb : Ps_takeBack C = some (gm_ui (gm_ui C4 22 1 (nI ((w + 15) % 16))) 22 2 (nI (u - 1))) := by
      unfold Ps_takeBack
      rw [c2, c1, if_neg (nI_nle (by omega) (by omega)), px_ck _ (by omega) (by decide), nI_clamp (by omega), a1]
      simp only [px_1]
      rw [a3 22 (by omega), c1, hx]
      simp only [px_1, px_lt]
      have e2 : (gm_ui C4 22 1 (nI ((w + 15) % 16))).1 22 2 = nI u := by rw [px_ui, if_pos rfl, if_neg (by omega), a3 22 (by omega)]; exact c2
      rw [e2, show nI u - 1 = nI (u - 1) from pk_sub (b := 1) (by omega)]
    have q1 : ∀ t, (t < 8 ∨ 11 < t) → t ≠ 22 → (gm_ui (gm_ui C4 22 1 (nI ((w + 15) % 16))) 22 2 (nI (u - 1))).1 t = C.1 t := fun t ht h22 => by rw [px_ui0 _ _ _ _ _ h22, px_ui0 _ _ _ _ _ h22, a3 t (by omega)]
    have c4 : px_CT (gm_ui (gm_ui C4 22 1 (nI ((w + 15) % 16))) 22 2 (nI (u - 1))) 8 d nr nn np kd (pg (u - 1)) := px_CT_k (px_CT_k a2 (px_ui0 _ _ _ _ _ (by omega)) (px_ui0 _ _ _ _ _ (by omega)) (px_ui0 _ _ _ _ _ (by omega)) (px_ui0 _ _ _ _ _ (by omega))) (px_ui0 _ _ _ _ _ (by omega)) (px_ui0 _ _ _ _ _ (by omega)) (px_ui0 _ _ _ _ _ (by omega)) (px_ui0 _ _ _ _ _ (by omega))
    have cj : (gm_ui (gm_ui C4 22 1 (nI ((w + 15) % 16))) 22 2 (nI (u - 1))).2 = C.2 := a4
    obtain ⟨C5, f1, f2, f3, f4, f5⟩ := px_fol_R (fl := fl) hf r0 r1 p1 c4 (px_TB_k r4 (q1 12 (by omega) (by omega)) (q1 18 (by omega) (by omega)) (fun t _ _ => by rw [cj]) r0.2.1)
    obtain ⟨M5, b1, b2, b3⟩ := px_undo_L (u := u - 1) (by omega) (gm_ui M 0 27 (nI (u - 1))) fl 0 (gm_ui M 0 27 (nI (u - 1))) (by omega) (by omega) (by rw [px_ui, if_pos rfl, if_pos rfl]) (fun j hj => by omega) (fun _ _ => rfl)
    have b1 : Mo_undo_L23 fl 0 (gm_ui M 0 27 (nI (u - 1))) = some M5 := b1
    have mk : ∀ k, k ≠ 27 → M5.1 0 k = M.1 0 k := fun k hk => by rw [b3 0 (by omega), px_ui, if_pos rfl, if_neg hk]
    have mt : ∀ t, t ≠ 0 → t ≠ 2 → M5.1 t = M.1 t := fun t h0 h2 => by rw [b3 t h2, px_ui0 _ _ _ _ _ h0]
    have m27 : M5.1 0 27 = nI (u - 1) := by rw [b3 0 (by omega), px_ui, if_pos rfl, if_pos rfl]
    have hMT : px_MT M5 d nr nn np kd (pg (u - 1)) := by
      obtain ⟨x1, x2, x3, x4, x5, x6, x7⟩ := r3
      refine ⟨by rw [mk 0 (by omega)]; exact x1, by rw [mk 1 (by omega)]; exact x2, by rw [mk 2 (by omega)]; exact x3, by rw [mk 3 (by omega)]; exact x4, by rw [mk 4 (by omega)]; exact x5, fun j hj => ?_, fun p hp => by rw [mt 1 (by omega) (by omega)]; exact x7 p hp⟩
      rw [b2 j hj, px_ui0 _ _ _ _ _ (by omega)]
      exact p3 j hj
    have qc : ∀ t, (t < 8 ∨ 22 < t) → C5.1 t = C.1 t := fun t ht => by rw [f4 t (by omega) (by omega) (by omega) (by omega), q1 t (by omega) (by omega)]
    have c22 : C5.1 22 = (gm_ui (gm_ui C4 22 1 (nI ((w + 15) % 16))) 22 2 (nI (u - 1))).1 22 := f4 22 (by omega) (by omega) (by omega) (by omega)
    have hm : (w + 15) % 16 < 16 := Nat.mod_lt _ (by decide)
    have hUn : px_Un C5 M5 d nr nn np kd := by
      refine ⟨u - 1, (w + 15) % 16, pg, by omega, hm, by rw [c22, px_ui, if_pos rfl, if_neg (by omega), px_ui, if_pos rfl, if_pos rfl], by rw [c22, px_ui, if_pos rfl, if_pos rfl], m27, fun i hi => ?_⟩
      obtain ⟨z1, z2, z3⟩ := hp i (by omega)
      rw [show ((w + 15) % 16 + 17 + i - (u - 1)) % 16 = (w + 17 + i - u) % 16 by omega]
      have hl : (w + 17 + i - u) % 16 < 16 := Nat.mod_lt _ (by decide)
      exact ⟨z1, px_CT_k z2 (qc _ (by omega)) (qc _ (by omega)) (qc _ (by omega)) (qc _ (by omega)), fun k hk => by rw [mt 10 (by omega) (by omega)]; exact z3 k hk⟩
    rw [tb, show nI u - 1 = nI (u - 1) from pk_sub (b := 1) (by omega)]
    simp only [px_1, px_lt]
    rw [f1, b1]
    simp only [px_1]
    rw [show C5.1 22 2 = nI (u - 1) by rw [c22, px_ui, if_pos rfl, if_pos rfl], m27]
    refine ⟨_, _, _, rfl, rfl, d, nr, nn, np, kd, pg (u - 1), px_R_tram R hUn p1 f3 hMT f2 (px_Sd_k r7 (by rw [f5 0 (by omega), cj]) (mk 7 (by omega))) (by rw [qc 0 (by omega)]) (qc 2 (by omega)) (qc 3 (by omega)) (fun t _ _ => qc t (by omega)) (fun t _ _ => by rw [f5 t (by omega), cj]) (mk 9 (by omega)) (mk 10 (by omega)) (mk 29 (by omega)) (mk 32 (by omega)) (fun t ht => mt t (by omega) (by omega))⟩
theorem px_01 (a0 : Int32) : (Mo_in a0.toInt64 0 1 = some (nI 0) ∧ (a0 < 0 ∨ (¬ a0 < 0 ∧ ¬ a0 < 2))) ∨ (∃ i, i < 2 ∧ a0 = nI i ∧ Mo_in a0.toInt64 0 1 = some (nI 1)) := by
  have i1 := px_in (Y := 0) (Z := 1) a0 0 1 rfl rfl
  rw [i1, show (0 : Int32).toInt = 0 from rfl, show (1 : Int32).toInt = 1 from rfl]
  by_cases c : a0 < 0
  · have := px_toI c
    rw [decide_eq_false (by omega)]
    exact Or.inl ⟨rfl, Or.inl c⟩
  · obtain ⟨i, hi, rfl⟩ := nI_of c
    rw [nI_toInt hi]
    by_cases c2 : i < 2
    · rw [decide_eq_true (by omega)]
      exact Or.inr ⟨i, c2, rfl, rfl⟩
    · rw [decide_eq_false (by omega)]
      exact Or.inl ⟨rfl, Or.inr ⟨c, fun q => c2 ((nI_ltI (b := 2) hi (by omega)).mp q)⟩⟩
end PO4
