theorem px_shift_L (M0 : gm_M) : ∀ (m k : Nat) (S : gm_M), 42 ≤ k → k ≤ 672 → 672 - k < m → (∀ j, j + 42 < k → S.1 10 j = M0.1 10 (j + 42)) → (∀ j, k ≤ j + 42 → S.1 10 j = M0.1 10 j) → (∀ t, t ≠ 10 → S.1 t = M0.1 t) → ∃ S', Mo_remember_L12 m (nI k) S = some S' ∧ (∀ j, j < 630 → S'.1 10 j = M0.1 10 (j + 42)) ∧ (∀ t, t ≠ 10 → S'.1 t = M0.1 t) := by
  intro m
  induction m with
  | zero => intro k S _ _ h; omega
  | succ m ih =>
    intro k S h1 h2 hm q1 q2 q3
    have e : Mo_remember_L12 (m + 1) (nI k) S = Mo_remember_L12_b (Mo_remember_L12 m) (nI k) S := rfl
    rw [e]
    unfold Mo_remember_L12_b
    by_cases c : 672 ≤ k
    · refine ⟨S, by simp (disch := omega) only [px_lit, px_litL, px_lt, px_1, px_2, px_3, px_ck, px_rm, px_le, px_ltI, px_eq, px_ne1, nI_add, pk_mul, pk_sub, pk_div, nI_clamp, px_ui, px_ui2, px_uj1, px_uj, px_uf, px_uf2, if_pos, if_neg, if_true, if_false, ↓reduceIte], fun j hj => q1 j (by omega), q3⟩
    · obtain ⟨S', a1, a2, a3⟩ := ih (k + 1) (gm_ui S 10 (k - 42) (S.1 10 k)) (by omega) (by omega) (by omega) (fun j hj => by
          rw [px_ui, if_pos rfl]
          by_cases ej : j = k - 42
          · rw [if_pos ej, q2 k (by omega), ej, show k - 42 + 42 = k by omega]
          · rw [if_neg ej]; exact q1 j (by omega)) (fun j hj => by
          rw [px_ui, if_pos rfl, if_neg (by omega)]
          exact q2 j (by omega)) (fun t ht => by rw [px_ui0 _ _ _ _ _ ht]; exact q3 t ht)
      refine ⟨S', ?_, a2, a3⟩
      simp (disch := omega) only [px_lit, px_le, px_lt, px_ck, nI_clamp, nI_add, pk_sub, if_neg]
      exact a1
theorem px_put_L {u : Nat} (hu : u < 16) (M0 : gm_M) : ∀ (m k : Nat) (S : gm_M), k ≤ 42 → 42 - k < m → S.1 0 27 = nI u → (∀ j, j < k → S.1 10 (42 * u + j) = M0.1 2 j) → (∀ j, (j < 42 * u ∨ 42 * u + k ≤ j) → S.1 10 j = M0.1 10 j) → (∀ t, t ≠ 10 → S.1 t = M0.1 t) → ∃ S', Mo_remember_L52 m (nI k) S = some S' ∧ (∀ j, j < 42 → S'.1 10 (42 * u + j) = M0.1 2 j) ∧ (∀ j, j < 42 * u → S'.1 10 j = M0.1 10 j) ∧ (∀ t, t ≠ 10 → S'.1 t = M0.1 t) := by
  intro m
  induction m with
  | zero => intro k S _ h; omega
  | succ m ih =>
    intro k S h2 hm h27 q1 q2 q3
    have e : Mo_remember_L52 (m + 1) (nI k) S = Mo_remember_L52_b (Mo_remember_L52 m) (nI k) S := rfl
    rw [e]
    unfold Mo_remember_L52_b
    rw [h27]
    by_cases c : 42 ≤ k
    · have : k = 42 := by omega
      subst this
      refine ⟨S, by simp (disch := omega) only [px_lit, px_litL, px_lt, px_1, px_2, px_3, px_ck, px_rm, px_le, px_ltI, px_eq, px_ne1, nI_add, pk_mul, pk_sub, pk_div, nI_clamp, px_ui, px_ui2, px_uj1, px_uj, px_uf, px_uf2, if_pos, if_neg, if_true, if_false, ↓reduceIte], q1, fun j hj => q2 j (by omega), q3⟩
    · obtain ⟨S', a1, a2, a3, a4⟩ := ih (k + 1) (gm_ui S 10 (42 * u + k) (S.1 2 k)) (by omega) (by omega) (by rw [px_ui0 _ _ _ _ _ (by omega)]; exact h27) (fun j hj => by
          rw [px_ui, if_pos rfl]
          by_cases ej : j = k
          · rw [if_pos (by omega), ej, q3 2 (by omega)]
          · rw [if_neg (by omega)]; exact q1 j (by omega)) (fun j hj => by
          rw [px_ui, if_pos rfl, if_neg (by omega)]
          exact q2 j (by omega)) (fun t ht => by rw [px_ui0 _ _ _ _ _ ht]; exact q3 t ht)
      refine ⟨S', ?_, a2, a3, a4⟩
      simp (disch := omega) only [px_lit, px_le, px_lt, px_ck, nI_clamp, nI_add, pk_mul, if_neg]
      exact a1
theorem px_mrem {fl u : Nat} {M : gm_M} (hf : 20000 ≤ fl) (hu : u ≤ 16) (h27 : M.1 0 27 = nI u) : ∃ M', Mo_remember fl M = some M' ∧ M'.1 0 27 = nI (if u = 16 then 16 else u + 1) ∧ (∀ k, k ≠ 27 → M'.1 0 k = M.1 0 k) ∧ (∀ t, t ≠ 0 → t ≠ 10 → M'.1 t = M.1 t) ∧ (∀ j, j < 42 → M'.1 10 (42 * (if u = 16 then 15 else u) + j) = M.1 2 j) ∧ (u < 16 → ∀ j, j < 42 * u → M'.1 10 j = M.1 10 j) ∧ (u = 16 → ∀ j, j < 630 → M'.1 10 j = M.1 10 (j + 42)) := by
  by_cases c : u = 16
  · subst c
    obtain ⟨S1, a1, a2, a3⟩ := px_shift_L M fl 42 M (by omega) (by omega) (by omega) (fun j hj => by omega) (fun _ _ => rfl) (fun _ _ => rfl)
    have a1 : Mo_remember_L12 fl 42 M = some S1 := a1
    obtain ⟨S2, b1, b2, b3, b4⟩ := px_put_L (u := 15) (by omega) (gm_ui S1 0 27 (nI 15)) fl 0 (gm_ui S1 0 27 (nI 15)) (by omega) (by omega) (by simp [px_ui]) (fun j hj => by omega) (fun _ _ => rfl) (fun _ _ => rfl)
    have b1 : Mo_remember_L52 fl 0 (gm_ui S1 0 27 (nI 15)) = some S2 := b1
    have s27 : S1.1 0 27 = nI 16 := by rw [a3 0 (by omega)]; exact h27
    refine ⟨gm_ui S2 0 27 (nI 16), ?_, by simp [px_ui], ?_, ?_, ?_, fun h => by omega, ?_⟩
    · unfold Mo_remember
      rw [h27, if_pos (show nI 16 = (16 : Int32) from rfl), a1]
      simp only [px_1, px_lt]
      rw [s27, show nI 16 - 1 = nI 15 from by decide, b1]
      simp only [px_1]
      rw [b4 0 (by omega)]
      simp [px_ui]
      congr 1
    · intro k hk
      simp only [px_ui, if_true, hk, if_false]
      rw [b4 0 (by omega)]
      simp only [px_ui, if_true, hk, if_false]
      rw [a3 0 (by omega)]
    · intro t h0 h10
      rw [px_ui0 _ _ _ _ _ h0, b4 t h10, px_ui0 _ _ _ _ _ h0, a3 t h10]
    · intro j hj
      rw [px_ui0 _ _ _ _ _ (by omega), if_pos rfl, b2 j hj, px_ui0 _ _ _ _ _ (by omega), a3 2 (by omega)]
    · intro _ j hj
      rw [px_ui0 _ _ _ _ _ (by omega), b3 j (by omega), px_ui0 _ _ _ _ _ (by omega), a2 j hj]
  · obtain ⟨S2, b1, b2, b3, b4⟩ := px_put_L (u := u) (by omega) M fl 0 M (by omega) (by omega) h27 (fun j hj => by omega) (fun _ _ => rfl) (fun _ _ => rfl)
    have b1 : Mo_remember_L52 fl 0 M = some S2 := b1
    refine ⟨gm_ui S2 0 27 (nI (u + 1)), ?_, by simp [px_ui, c], ?_, ?_, ?_, ?_, fun h => absurd h c⟩
    · unfold Mo_remember
      rw [h27, if_neg (show ¬ nI u = (16 : Int32) from fun q => c ((nI_eq (b := 16) (by omega) (by omega)).mp q))]
      simp only [px_1]
      rw [b1]
      simp only [px_1, px_lt]
      rw [b4 0 (by omega), h27, show nI u + 1 = nI (u + 1) from nI_1 u]
    · intro k hk
      simp only [px_ui, if_true, hk, if_false]
      rw [b4 0 (by omega)]
    · intro t h0 h10
      rw [px_ui0 _ _ _ _ _ h0, b4 t h10]
    · intro j hj
      rw [px_ui0 _ _ _ _ _ (by omega), if_neg c, b2 j hj]
    · intro _ j hj
      rw [px_ui0 _ _ _ _ _ (by omega), b3 j hj]
theorem px_crem {w u : Nat} {d nr nn np : Nat} {kd g : Nat → Nat} {C : gm_M} (hw : w < 16) (hu : u ≤ 16) (h0 : px_V0 d nr nn np kd) (h1 : C.1 22 1 = nI w) (h2 : C.1 22 2 = nI u) (hC : px_CT C 8 d nr nn np kd g) : ∃ C', Ps_remember C = some C' ∧ C'.1 22 1 = nI ((w + 1) % 16) ∧ C'.1 22 2 = nI (if u = 16 then 16 else u + 1) ∧ px_CT C' (24 + 4 * ((w + 1) % 16)) d nr nn np kd g ∧ (∀ t, t ≠ 22 → (t < 24 + 4 * ((w + 1) % 16) ∨ 24 + 4 * ((w + 1) % 16) + 3 < t) → C'.1 t = C.1 t) ∧ C'.2 = C.2 := by
  have hm : (w + 1) % 16 < 16 := Nat.mod_lt _ (by decide)
  have hx : (show Option Int32 from if (16 : Int32) ≤ nI w + 1 then some 0 else some (nI w + 1)) = some (nI ((w + 1) % 16)) := by
    show (if (16 : Int32) ≤ nI w + 1 then some 0 else some (nI w + 1)) = some (nI ((w + 1) % 16))
    rw [show nI w + 1 = nI (w + 1) from nI_1 w]
    by_cases c : 16 ≤ w + 1
    · rw [if_pos (show (16 : Int32) ≤ nI (w + 1) from (nI_leI (a := 16) (by omega) (by omega)).mpr c), show (w + 1) % 16 = 0 by omega]
      rfl
    · rw [if_neg (show ¬ (16 : Int32) ≤ nI (w + 1) from fun q => c ((nI_leI (a := 16) (by omega) (by omega)).mp q)), show (w + 1) % 16 = w + 1 by omega]
  obtain ⟨S5, a1, a2, a3, a4⟩ := px_copy_CT (t := 24 + 4 * ((w + 1) % 16)) (o := 8) (S := gm_ui C 22 1 (nI ((w + 1) % 16))) (Or.inr (by omega)) h0.2.1 h0.2.2.1 h0.2.2.2.1 (px_CT_k hC (px_ui0 _ _ _ _ _ (by omega)) (px_ui0 _ _ _ _ _ (by omega)) (px_ui0 _ _ _ _ _ (by omega)) (px_ui0 _ _ _ _ _ (by omega)))
  have s22 : S5.1 22 2 = nI u := by rw [a3 22 (Or.inl (by omega))]; simp [px_ui, h2]
  have s221 : S5.1 22 1 = nI ((w + 1) % 16) := by rw [a3 22 (Or.inl (by omega))]; simp [px_ui]
  have hx6 : (if nI u + 1 < 16 then nI u + 1 else (16 : Int32)) = nI (if u = 16 then 16 else u + 1) := by
    rw [show nI u + 1 = nI (u + 1) from nI_1 u]
    by_cases c : u + 1 < 16
    · rw [if_pos (show nI (u + 1) < (16 : Int32) from (nI_ltI (b := 16) (by omega) (by omega)).mpr c), if_neg (by omega)]
    · rw [if_neg (show ¬ nI (u + 1) < (16 : Int32) from fun q => c ((nI_ltI (b := 16) (by omega) (by omega)).mp q))]
      rcases (show u = 15 ∨ u = 16 by omega) with rfl | rfl <;> rfl
  refine ⟨gm_ui S5 22 2 (nI (if u = 16 then 16 else u + 1)), ?_, ?_, by simp [px_ui], ?_, ?_, ?_⟩
  · unfold Ps_remember
    rw [h1, hx]
    simp only [px_1, px_lt]
    have e1 : (gm_ui C 22 1 (nI ((w + 1) % 16))).1 22 1 = nI ((w + 1) % 16) := by simp [px_ui]
    rw [e1, px_ck _ (by omega) (by decide), nI_clamp (by omega), a1]
    simp only [px_1]
    rw [s22, hx6]
  · simp [px_ui, s221]
  · exact px_CT_k a2 (px_ui0 _ _ _ _ _ (by omega)) (px_ui0 _ _ _ _ _ (by omega)) (px_ui0 _ _ _ _ _ (by omega)) (px_ui0 _ _ _ _ _ (by omega))
  · intro t t1 t2
    rw [px_ui0 _ _ _ _ _ t1, a3 t t2, px_ui0 _ _ _ _ _ t1]
  · rw [px_ui2, a4, px_ui2]
theorem px_rem {fl d nr nn np : Nat} {kd g : Nat → Nat} {C M : gm_M} (hf : 20000 ≤ fl) (h0 : px_V0 d nr nn np kd) (h1 : px_V1 d nr nn g) (hC : px_CT C 8 d nr nn np kd g) (hM : px_MT M d nr nn np kd g) (hU : px_Un C M d nr nn np kd) : ∃ C' M', Ps_remember C = some C' ∧ Mo_remember fl M = some M' ∧ px_Un C' M' d nr nn np kd ∧ (∀ t, (t < 22 ∨ 88 ≤ t) → C'.1 t = C.1 t) ∧ C'.2 = C.2 ∧ (∀ k, k ≠ 27 → M'.1 0 k = M.1 0 k) ∧ (∀ t, t ≠ 0 → t ≠ 10 → M'.1 t = M.1 t) := by
  obtain ⟨u, w, pg, hu, hw, c1, c2, m1, hp⟩ := hU
  obtain ⟨C', a1, a2, a3, a4, a5, a6⟩ := px_crem hw hu h0 c1 c2 hC
  obtain ⟨M', b1, b2, b3, b4, b5, b6, b7⟩ := px_mrem (fl := fl) hf hu m1
  have hm : (w + 1) % 16 < 16 := Nat.mod_lt _ (by decide)
  refine ⟨C', M', a1, b1, ?_, fun t ht => a5 t (by omega) (by omega), a6, b3, b4⟩
  by_cases c : u = 16
  · subst c
    rw [if_pos rfl] at a3 b2 b5
    refine ⟨16, (w + 1) % 16, fun i => if i = 15 then g else pg (i + 1), by omega, hm, a2, a3, b2, fun i hi => ?_⟩
    by_cases e : i = 15
    · subst e
      dsimp only
      rw [if_pos rfl, show ((w + 1) % 16 + 17 + 15 - 16) % 16 = (w + 1) % 16 by omega]
      exact ⟨h1, a4, fun k hk => by rw [b5 k hk]; exact px_mrow hM hk⟩
    · dsimp only
      rw [if_neg e]
      obtain ⟨q1, q2, q3⟩ := hp (i + 1) (by omega)
      have ei : ((w + 1) % 16 + 17 + i - 16) % 16 = (w + 17 + (i + 1) - 16) % 16 := by omega
      have hlt : (w + 17 + (i + 1) - 16) % 16 < 16 := Nat.mod_lt _ (by decide)
      have hne : (w + 17 + (i + 1) - 16) % 16 ≠ (w + 1) % 16 := by omega
      rw [ei]
      refine ⟨q1, px_CT_k q2 (a5 _ (by omega) (by omega)) (a5 _ (by omega) (by omega)) (a5 _ (by omega) (by omega)) (a5 _ (by omega) (by omega)), fun k hk => ?_⟩
      rw [b7 rfl (42 * i + k) (by omega), show 42 * i + k + 42 = 42 * (i + 1) + k by omega]
      exact q3 k hk
  · rw [if_neg c] at a3 b2 b5
    refine ⟨u + 1, (w + 1) % 16, fun i => if i = u then g else pg i, by omega, hm, a2, a3, b2, fun i hi => ?_⟩
    by_cases e : i = u
    · subst e
      dsimp only
      rw [if_pos rfl, show ((w + 1) % 16 + 17 + i - (i + 1)) % 16 = (w + 1) % 16 by omega]
      exact ⟨h1, a4, fun k hk => by rw [b5 k hk]; exact px_mrow hM hk⟩
    · dsimp only
      rw [if_neg e]
      obtain ⟨q1, q2, q3⟩ := hp i (by omega)
      have ei : ((w + 1) % 16 + 17 + i - (u + 1)) % 16 = (w + 17 + i - u) % 16 := by omega
      have hlt : (w + 17 + i - u) % 16 < 16 := Nat.mod_lt _ (by decide)
      have hne : (w + 17 + i - u) % 16 ≠ (w + 1) % 16 := by omega
      rw [ei]
      refine ⟨q1, px_CT_k q2 (a5 _ (by omega) (by omega)) (a5 _ (by omega) (by omega)) (a5 _ (by omega) (by omega)) (a5 _ (by omega) (by omega)), fun k hk => ?_⟩
      rw [b6 (by omega) (42 * i + k) (by omega)]
      exact q3 k hk
