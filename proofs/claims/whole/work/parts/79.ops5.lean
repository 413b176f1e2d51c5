section PO5
variable {C M C2 M2 : gm_M} {d nr nn np : Nat} {kd g g2 : Nat → Nat} {fl : Nat}
theorem px_V0_Un0 {w : Nat} (hw : w < 16) (c1 : C.1 22 1 = nI w) (c2 : C.1 22 2 = nI 0) (m : M.1 0 27 = nI 0) : px_Un C M d nr nn np kd := ⟨0, w, fun _ _ => 0, by omega, hw, c1, c2, m, fun i hi => by omega⟩
theorem op_keep (a0 : Int32) (hf : 20000 ≤ fl) (R : px_R C M) : ∃ x C' M', Lt_keep a0 C = some (x, C') ∧ Mo_keep fl a0 M = some (x, M') ∧ px_R C' M' := by
  obtain ⟨d, nr, nn, np, kd, g, R⟩ := id R
  obtain ⟨r0, r1, r2, r3, r4, r5, r6, r7, r8, r9, r10, r11⟩ := id R
  obtain ⟨u, w, pg, hu, hw, c1, c2, m1, hp⟩ := id r8
  obtain ⟨sd, s1, s2, s3⟩ := id r7
  unfold Lt_keep Mo_keep
  rcases px_01 a0 with ⟨e1, e2⟩ | ⟨i, hi, rfl, e1⟩
  · rw [e1]
    simp only [px_1, px_e0, if_true]
    rcases e2 with e2 | ⟨e2, e3⟩
    · rw [if_pos e2]
      exact ⟨_, _, _, rfl, rfl, _, _, _, _, _, _, R⟩
    · rw [if_neg e2, if_neg e3]
      exact ⟨_, _, _, rfl, rfl, _, _, _, _, _, _, R⟩
  · rw [e1]
    simp only [px_1, px_e1, if_false]
    rw [if_neg (nI_pos (by omega)), if_pos (show nI i < (2 : Int32) from (nI_ltI (b := 2) (by omega) (by omega)).mpr hi)]
    have e0 : (gm_ui C (96 + 5 * i) 1 1).2 0 7 = lN sd := s2
    have hCT : px_CT (gm_uj (gm_ui C (96 + 5 * i) 1 1) (96 + 5 * i) 2 (lN sd)) 8 d nr nn np kd g := px_CT_k r2 (px_ui0 _ _ _ _ _ (by omega)) (px_ui0 _ _ _ _ _ (by omega)) (px_ui0 _ _ _ _ _ (by omega)) (px_ui0 _ _ _ _ _ (by omega))
    obtain ⟨C4, a1, a2, a3, a4⟩ := px_copy_CT (t := 96 + 5 * i + 1) (o := 8) (Or.inr (by omega)) r0.2.1 r0.2.2.1 r0.2.2.2.1 hCT
    have cf : ∀ t, t ≠ 22 → (t < 96 + 5 * i ∨ 96 + 5 * i + 4 < t) → (gm_ui C4 22 2 0).1 t = C.1 t := fun t h ht => by rw [px_ui0 _ _ _ _ _ h, a3 t (by omega), px_uj1, px_ui0 _ _ _ _ _ (by omega)]
    have cj : ∀ t, t ≠ 96 + 5 * i → (gm_ui C4 22 2 0).2 t = C.2 t := fun t ht => by rw [px_ui2, a4, px_uj0 _ _ _ _ _ ht]; rfl
    obtain ⟨M5, b1, b2, b3, b4⟩ := px_keep_L (i := i) hi M fl 0 M (by omega) (by omega) (fun j hj => by omega) (fun _ _ => rfl) (fun _ _ => rfl)
    have b1 : Mo_keep_L15 (nI i) fl 0 M = some M5 := b1
    have n1 : (43 : Int32) * nI i + 42 = nI (43 * i + 42) := by rw [show (43 : Int32) = nI 43 from rfl, show (42 : Int32) = nI 42 from rfl, pk_mul, nI_add]
    have m7 : M5.1 0 7 = nI sd := by rw [b4 0 (by omega)]; exact s3
    have hx : vp_nar .boolean 1 = (1 : Int32) := rfl
    simp only [px_lt]
    rw [px_ck _ (by omega) (by decide), px_ck _ (by omega) (by decide), px_ck _ (by omega) (by decide), nI_clamp (by omega), e0, a1, b1, n1]
    simp only [px_1, px_lt]
    rw [px_ck _ (by omega) (by decide), px_ck _ (by omega) (by decide), nI_clamp (by omega), m7, hx]
    refine ⟨_, _, _, rfl, rfl, d, nr, nn, np, kd, g, ?_⟩
    have mk : ∀ k, k ≠ 27 → (gm_ui (gm_ui (gm_ui M5 15 (43 * i + 42) (nI sd)) 16 i 1) 0 27 0).1 0 k = M.1 0 k := fun k hk => by rw [px_ui, if_pos rfl, if_neg hk, px_ui0 _ _ _ _ _ (by omega), px_ui0 _ _ _ _ _ (by omega), b4 0 (by omega)]
    have mt : ∀ t, t ≠ 0 → t ≠ 15 → t ≠ 16 → (gm_ui (gm_ui (gm_ui M5 15 (43 * i + 42) (nI sd)) 16 i 1) 0 27 0).1 t = M.1 t := fun t h0 h15 h16 => by rw [px_ui0 _ _ _ _ _ h0, px_ui0 _ _ _ _ _ h16, px_ui0 _ _ _ _ _ h15, b4 t h15]
    refine ⟨r0, r1, px_CT_k r2 (cf _ (by omega) (by omega)) (cf _ (by omega) (by omega)) (cf _ (by omega) (by omega)) (cf _ (by omega) (by omega)), px_MT_k r3 (fun k hk => mk k (by omega)) (mt 1 (by omega) (by omega) (by omega)) (mt 2 (by omega) (by omega) (by omega)), px_TB_k r4 (cf 12 (by omega) (by omega)) (cf 18 (by omega) (by omega)) (fun t _ _ => cj t (by omega)) r0.2.1, px_Tx_k r5 (cf 2 (by omega) (by omega)) (cf 3 (by omega) (by omega)) (mk 9 (by omega)) (mt 3 (by omega) (by omega) (by omega)), px_Fl_k r6 (by rw [cf 0 (by omega) (by omega)]) (mk 10 (by omega)), px_Sd_k r7 (by rw [cj 0 (by omega)]) (mk 7 (by omega)), px_V0_Un0 hw ?_ ?_ ?_, ?_, px_Gu_k r10 (cf 88 (by omega) (by omega)) (cf 89 (by omega) (by omega)) (mk 29 (by omega)) (mt 11 (by omega) (by omega) (by omega)) (mt 12 (by omega) (by omega) (by omega)), px_Bo_k r11 (cf 92 (by omega) (by omega)) (cf 93 (by omega) (by omega)) (cf 94 (by omega) (by omega)) (mk 32 (by omega)) (mt 13 (by omega) (by omega) (by omega)) (mt 14 (by omega) (by omega) (by omega))⟩
    · rw [px_ui, if_pos rfl, if_neg (by omega), a3 22 (by omega), px_uj1, px_ui0 _ _ _ _ _ (by omega)]; exact c1
    · rw [px_ui, if_pos rfl, if_pos rfl]; rfl
    · rw [px_ui, if_pos rfl, if_pos rfl]; rfl
    · intro j hj
      by_cases e : j = i
      · subst e
        refine ⟨true, ?_, ?_, fun _ => ⟨sd, g, s1, ?_, ?_, r1, ?_, ?_⟩⟩
        · rw [px_ui0 _ _ _ _ _ (by omega), a3 _ (by omega), px_uj1, px_ui, if_pos rfl, if_pos rfl]; rfl
        · rw [px_ui0 _ _ _ _ _ (by omega), px_ui, if_pos rfl, if_pos rfl]; rfl
        · rw [px_ui2, a4, px_uj, if_pos rfl, if_pos rfl]
        · rw [px_ui0 _ _ _ _ _ (by omega), px_ui0 _ _ _ _ _ (by omega), px_ui, if_pos rfl, if_pos rfl]
        · exact px_CT_k a2 (px_ui0 _ _ _ _ _ (by omega)) (px_ui0 _ _ _ _ _ (by omega)) (px_ui0 _ _ _ _ _ (by omega)) (px_ui0 _ _ _ _ _ (by omega))
        · intro k hk
          rw [px_ui0 _ _ _ _ _ (by omega), px_ui0 _ _ _ _ _ (by omega), px_ui, if_pos rfl, if_neg (by omega), b2 k hk]
          exact px_mrow r3 hk
      · obtain ⟨b, y1, y2, y3⟩ := r9 j hj
        refine ⟨b, ?_, ?_, fun hb => ?_⟩
        · rw [cf _ (by omega) (by omega)]; exact y1
        · rw [px_ui0 _ _ _ _ _ (by omega), px_ui, if_pos rfl, if_neg e, px_ui0 _ _ _ _ _ (by omega), b4 16 (by omega)]; exact y2
        · obtain ⟨sd', g', z1, z2, z3, z4, z5, z6⟩ := y3 hb
          refine ⟨sd', g', z1, ?_, ?_, z4, px_CT_k z5 (cf _ (by omega) (by omega)) (cf _ (by omega) (by omega)) (cf _ (by omega) (by omega)) (cf _ (by omega) (by omega)), fun k hk => ?_⟩
          · rw [cj _ (by omega)]; exact z2
          · rw [px_ui0 _ _ _ _ _ (by omega), px_ui0 _ _ _ _ _ (by omega), px_ui, if_pos rfl, if_neg (by omega), b3 _ (by omega)]; exact z3
          · rw [px_ui0 _ _ _ _ _ (by omega), px_ui0 _ _ _ _ _ (by omega), px_ui, if_pos rfl, if_neg (by omega), b3 _ (by omega)]; exact z6 k hk
theorem op_goBack (a0 : Int32) (hf : 20000 ≤ fl) (R : px_R C M) : ∃ x C' M', Lt_goBack fl a0 C = some (x, C') ∧ Mo_goBack fl a0 M = some (x, M') ∧ px_R C' M' := by
  obtain ⟨d, nr, nn, np, kd, g, R⟩ := id R
  obtain ⟨r0, r1, r2, r3, r4, r5, r6, r7, r8, r9, r10, r11⟩ := id R
  obtain ⟨u, w, pg, hu, hw, c1, c2, m1, hp⟩ := id r8
  unfold Lt_goBack Mo_goBack
  rcases px_01 a0 with ⟨e1, e2⟩ | ⟨i, hi, rfl, e1⟩
  · rw [e1]
    simp only [px_1, px_e0, if_true]
    rcases e2 with e2 | ⟨e2, e3⟩
    · rw [if_pos e2]
      exact ⟨_, _, _, rfl, rfl, _, _, _, _, _, _, R⟩
    · rw [if_neg e2, if_neg e3]
      exact ⟨_, _, _, rfl, rfl, _, _, _, _, _, _, R⟩
  · rw [e1]
    simp only [px_1, px_e1, if_false]
    obtain ⟨b, y1, y2, y3⟩ := r9 i hi
    simp only [px_lt]
    rw [if_neg (nI_pos (by omega)), if_pos (show nI i < (2 : Int32) from (nI_ltI (b := 2) (by omega) (by omega)).mpr hi), px_ck _ (by omega) (by decide), px_ck _ (by omega) (by decide), px_ck _ (by omega) (by decide), px_ck _ (by omega) (by decide), nI_clamp (by omega), y1, y2]
    cases b
    · rw [if_pos (show nI false.toNat = (0 : Int32) from rfl), if_pos (show nI false.toNat = (0 : Int32) from rfl)]
      exact ⟨_, _, _, rfl, rfl, _, _, _, _, _, _, R⟩
    · rw [if_neg (show ¬ nI true.toNat = (0 : Int32) by decide), if_neg (show ¬ nI true.toNat = (0 : Int32) by decide)]
      obtain ⟨sd, g2, z1, z2, z3, z4, z5, z6⟩ := y3 rfl
      obtain ⟨C4, a1, a2, a3, a4⟩ := px_copy_CT (t := 8) (o := 96 + 5 * i + 1) (S := gm_uj C 0 7 (lN sd)) (Or.inl (by omega)) r0.2.1 r0.2.2.1 r0.2.2.2.1 z5
      have q1 : ∀ t, (t < 8 ∨ 11 < t) → C4.1 t = C.1 t := fun t ht => by rw [a3 t (by omega)]; rfl
      have q2 : ∀ t, t ≠ 0 → C4.2 t = C.2 t := fun t ht => by rw [a4, px_uj0 _ _ _ _ _ ht]
      obtain ⟨C5, f1, f2, f3, f4, f5⟩ := px_fol_R (fl := fl) hf r0 r1 z4 a2 (px_TB_k r4 (q1 12 (by omega)) (q1 18 (by omega)) (fun t _ _ => q2 t (by omega)) r0.2.1)
      have cf : ∀ t, t ≠ 22 → (t < 8 ∨ 21 < t) → (gm_ui C5 22 2 0).1 t = C.1 t := fun t h ht => by rw [px_ui0 _ _ _ _ _ h, f4 t (by omega) (by omega) (by omega) (by omega), q1 t (by omega)]
      have cj : ∀ t, (0 < t ∧ t < 14 ∨ 19 < t) → (gm_ui C5 22 2 0).2 t = C.2 t := fun t ht => by rw [px_ui2, f5 t (by omega), q2 t (by omega)]
      obtain ⟨M5, b1, b2, b3⟩ := px_back_L (i := i) hi M fl 0 M (by omega) (by omega) (fun j hj => by omega) (fun _ _ => rfl)
      have b1 : Mo_goBack_L28 (nI i) fl 0 M = some M5 := b1
      have n1 : (43 : Int32) * nI i + 42 = nI (43 * i + 42) := by rw [show (43 : Int32) = nI 43 from rfl, show (42 : Int32) = nI 42 from rfl, pk_mul, nI_add]
      have m42 : M5.1 15 (43 * i + 42) = nI sd := by rw [b3 15 (by omega)]; exact z3
      rw [z2, a1, b1, n1]
      simp only [px_1]
      rw [f1, px_ck _ (by omega) (by decide), nI_clamp (by omega), m42]
      simp only [px_1]
      refine ⟨_, _, _, rfl, rfl, d, nr, nn, np, kd, g2, ?_⟩
      have mk : ∀ k, k ≠ 27 → k ≠ 7 → (gm_ui (gm_ui M5 0 7 (nI sd)) 0 27 0).1 0 k = M.1 0 k := fun k hk h7 => by rw [px_ui, if_pos rfl, if_neg hk, px_ui, if_pos rfl, if_neg h7, b3 0 (by omega)]
      have mt : ∀ t, t ≠ 0 → t ≠ 2 → (gm_ui (gm_ui M5 0 7 (nI sd)) 0 27 0).1 t = M.1 t := fun t h0 h2 => by rw [px_ui0 _ _ _ _ _ h0, px_ui0 _ _ _ _ _ h0, b3 t h2]
      refine px_R_tram R (px_V0_Un0 hw ?_ ?_ ?_) z4 (px_CT_k f3 (px_ui0 _ _ _ _ _ (by omega)) (px_ui0 _ _ _ _ _ (by omega)) (px_ui0 _ _ _ _ _ (by omega)) (px_ui0 _ _ _ _ _ (by omega))) ?_ (px_TB_k f2 (px_ui0 _ _ _ _ _ (by omega)) (px_ui0 _ _ _ _ _ (by omega)) (fun _ _ _ => rfl) r0.2.1) ⟨sd, z1, ?_, ?_⟩ (by rw [cf 0 (by omega) (by omega)]) (cf 2 (by omega) (by omega)) (cf 3 (by omega) (by omega)) (fun t _ _ => cf t (by omega) (by omega)) (fun t _ _ => cj t (by omega)) (mk 9 (by omega) (by omega)) (mk 10 (by omega) (by omega)) (mk 29 (by omega) (by omega)) (mk 32 (by omega) (by omega)) (fun t ht => mt t (by omega) (by omega))
      · rw [px_ui, if_pos rfl, if_neg (by omega), f4 22 (by omega) (by omega) (by omega) (by omega), q1 22 (by omega)]; exact c1
      · rw [px_ui, if_pos rfl, if_pos rfl]; rfl
      · rw [px_ui, if_pos rfl, if_pos rfl]; rfl
      · obtain ⟨x1, x2, x3, x4, x5, x6, x7⟩ := r3
        refine ⟨by rw [mk 0 (by omega) (by omega)]; exact x1, by rw [mk 1 (by omega) (by omega)]; exact x2, by rw [mk 2 (by omega) (by omega)]; exact x3, by rw [mk 3 (by omega) (by omega)]; exact x4, by rw [mk 4 (by omega) (by omega)]; exact x5, fun j hj => ?_, fun p hp => by rw [mt 1 (by omega) (by omega)]; exact x7 p hp⟩
        rw [px_ui0 _ _ _ _ _ (by omega), px_ui0 _ _ _ _ _ (by omega), b2 j hj]
        exact z6 j hj
      · rw [px_ui2, f5 0 (by omega), a4, px_uj, if_pos rfl, if_pos rfl]
      · rw [px_ui, if_pos rfl, if_neg (by omega), px_ui, if_pos rfl, if_pos rfl]
end PO5
