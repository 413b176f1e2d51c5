section PT2
variable {C M C' M' : gm_M} {n : Nat} {tx : Nat → Nat} {fl d nr nn np : Nat} {kd g : Nat → Nat} {mt : Bool}
theorem px_imgs (C : gm_M) (hf : 1000 ≤ fl) : ∃ C', Lt_tram_L112 fl 0 C = some C' ∧ (∀ t, t ≠ 96 → t ≠ 101 → C'.1 t = C.1 t) ∧ C'.2 = C.2 ∧ C'.1 96 1 = nI 0 ∧ C'.1 101 1 = nI 0 := by
  obtain ⟨q, rfl⟩ : ∃ q, fl = q + 3 := ⟨fl - 3, by omega⟩
  have e : Lt_tram_L112 (q + 3) 0 C = some (gm_ui (gm_ui C 96 1 0) 101 1 0) := by
    show Lt_tram_L112_b (Lt_tram_L112_b (Lt_tram_L112_b (Lt_tram_L112 q))) (nI 0) C = _
    unfold Lt_tram_L112_b
    rw [if_neg (show ¬ (2 : Int32) ≤ nI 0 by decide), px_ck _ (by decide) (by decide), nI_clamp (by decide)]
    simp only [px_lt]
    rw [show nI 0 + 1 = nI 1 from nI_1 0, if_neg (show ¬ (2 : Int32) ≤ nI 1 by decide), px_ck _ (by decide) (by decide), nI_clamp (by decide), show nI 1 + 1 = nI 2 from nI_1 1, if_pos (show (2 : Int32) ≤ nI 2 by decide)]
  refine ⟨_, e, fun t t1 t2 => by rw [px_ui0 _ _ _ _ _ t2, px_ui0 _ _ _ _ _ t1], rfl, by rw [px_ui0 _ _ _ _ _ (by omega), px_ui, if_pos rfl, if_pos rfl]; rfl, by rw [px_ui, if_pos rfl, if_pos rfl]; rfl⟩
theorem op_tram (hf : 20000 ≤ fl) (R : px_R C M) : ∃ x C' M', Lt_tram fl C = some (x, C') ∧ Mo_tram fl M = some (x, M') ∧ px_R C' M' := by
  obtain ⟨d, nr, nn, np, kd, g, R⟩ := id R
  obtain ⟨r0, r1, r2, r3, r4, ⟨n, tx, t1, t2, t3, t4⟩, r6, r7, r8, r9, r10, r11⟩ := id R
  obtain ⟨u, w, pg, hu, hw, u1, u2, u3, u4⟩ := id r8
  have hS5 : ∃ S5 : gm_M, px_FC C S5 ∧ S5.1 1 2 = nI 0 ∧ S5.1 1 4 = nI 0 ∧ S5.1 1 6 = nI 0 ∧ (∀ k, 3 ≤ k → k < 9 → S5.1 4 k = nI 0) ∧ Rd_readText fl C = (gm_bp1 (Rd_skipBlanks fl S5) fun S6 => gm_bp1 (Rd_readText_L33 fl fl 0 S6) fun S9 => some S9) := by
    unfold Rd_readText Tr_clear
    simp only [px_lt, px_1]
    refine ⟨_, px_FC_u (px_FC_u (px_FC_u (px_FC_u (px_FC_u (px_FC_u (px_FC_u (px_FC_u (px_FC_u (px_FC_u (px_FC_r C) (by omega)) (by omega)) (by omega)) (by omega)) (by omega)) (by omega)) (by omega)) (by omega)) (by omega)) (by omega), ?_, ?_, ?_, ?_, rfl⟩
    · simp [px_ui]; rfl
    · simp [px_ui]; rfl
    · simp [px_ui]; rfl
    · intro k k1 k2
      rcases (show k = 3 ∨ k = 4 ∨ k = 5 ∨ k = 6 ∨ k = 7 ∨ k = 8 by omega) with rfl | rfl | rfl | rfl | rfl | rfl <;> simp [px_ui] <;> rfl
  obtain ⟨S5, f5, s2, s4, s6, s43, eR⟩ := hS5
  have hM9 : ∃ M9 : gm_M, px_FN M M9 ∧ M9.1 0 10 = -1 ∧ M9.1 0 11 = nI 0 ∧ M9.1 0 14 = nI 0 ∧ M9.1 0 15 = nI 0 ∧ M9.1 0 16 = nI 0 ∧ M9.1 0 17 = nI 0 ∧ M9.1 0 18 = nI 0 ∧ M9.1 0 22 = nI 0 ∧ M9.1 0 25 = nI 0 ∧ Mo_tram fl M = (gm_bp2 (Mo_tram_L47 fl fl 0 M9) fun z12 S13 => gm_lt (α := gm_M) (gm_ui S13 0 9 0) fun S20 => if z12 ≤ 0 then (gm_bp1 (Mo_takeRead fl S20) fun S22 => gm_lt (α := gm_M) (gm_ui S22 0 29 0) fun S23 => gm_lt (α := gm_M) (gm_ui S23 0 32 0) fun S24 => gm_lt (α := gm_M) (gm_ui S24 0 27 0) fun S25 => gm_ck (0) 2 <| gm_lt (α := gm_M) (gm_ui S25 16 ((0 : Int32).toNatClampNeg) (vp_nar .boolean 0)) fun S27 => gm_ck (1) 2 <| gm_lt (α := gm_M) (gm_ui S27 16 ((1 : Int32).toNatClampNeg) (vp_nar .boolean 0)) fun S29 => some (S29.1 0 4, S29)) else (some ((-10) - z12, S20))) := by
    unfold Mo_tram
    refine ⟨gm_ui (gm_ui (gm_ui (gm_ui (gm_ui (gm_ui (gm_ui (gm_ui (gm_ui M 0 10 (-1)) 0 11 0) 0 14 0) 0 15 0) 0 16 0) 0 17 0) 0 18 0) 0 22 0) 0 25 0, px_FN_0 (px_FN_0 (px_FN_0 (px_FN_0 (px_FN_0 (px_FN_0 (px_FN_0 (px_FN_0 (px_FN_0 (px_FN_r M) (by omega)) (by omega)) (by omega)) (by omega)) (by omega)) (by omega)) (by omega)) (by omega)) (by omega), ?_, ?_, ?_, ?_, ?_, ?_, ?_, ?_, ?_, rfl⟩
    · simp [px_ui]
    · simp [px_ui]; rfl
    · simp [px_ui]; rfl
    · simp [px_ui]; rfl
    · simp [px_ui]; rfl
    · simp [px_ui]; rfl
    · simp [px_ui]; rfl
    · simp [px_ui]; rfl
    · simp [px_ui]; rfl
  obtain ⟨M9, f9, m10, m11, m14, m15, m16, m17, m18, m22, m25, eM⟩ := hM9
  have T5 : px_TX S5 n tx := px_TX_C ⟨t1, t2, fun i hi => ⟨(t4 i hi).1, (t4 i hi).2.1⟩⟩ f5
  have TM9 : px_TM M9 n tx := px_TM_N ⟨t3, fun i hi => (t4 i hi).2.2⟩ f9
  have O5 : px_OD S5 M9 0 0 0 0 (fun _ => 0) (fun _ => 0) false := ⟨⟨Or.inl rfl, by omega, by omega, by omega, fun _ => ⟨rfl, rfl, rfl⟩, fun p hp => by omega⟩, ⟨Nat.zero_le _, fun r hr => by omega, fun r hr => by omega, fun _ _ _ => Nat.zero_le _, Nat.zero_le _, fun _ _ => Nat.le_refl _⟩, fun _ _ _ _ => rfl, ⟨s43 3 (by omega) (by omega), s43 4 (by omega) (by omega), s43 5 (by omega) (by omega), s43 6 (by omega) (by omega), s43 7 (by omega) (by omega), s43 8 (by omega) (by omega), fun r hr => by omega, fun r hr => by omega, fun r hr => by omega⟩, ⟨m14, m15, m17, m18, m22, m25⟩, ⟨s6, m16⟩, fun r hr => by omega, fun r hr => by omega, fun r hr => by omega⟩
  obtain ⟨S6, k1, k2, k3, k4⟩ := px_csk (fl := fl) (p := 0) (by omega) T5 s2 (by omega)
  have hb0 := px_sk_b tx (n - 0) 0
  obtain ⟨v, C1, M1, x1, x2, x3, x4, x5⟩ := px_text_L (fl := fl) (by omega) fl 0 0 S6 M9 ⟨px_TX_F T5 k2, k3, by omega, by rw [k4 4 (by omega)]; exact s4, by omega⟩ TM9 m11 m10 (by omega) (by omega) ⟨0, 0, 0, 0, _, _, false, px_OD_k O5 k2 (k4 6 (by omega)) (px_FM_r M9)⟩ (by omega)
  have x1 : Rd_readText_L33 fl fl 0 S6 = some C1 := x1
  have F1 : px_FC C C1 := px_FC_t (px_FC_t f5 (px_FC_1 k2)) x3
  have F2 : px_FN M M1 := px_FN_t f9 x4
  unfold Lt_tram
  rw [eR, eM, k1, px_1, x1, px_1, px_1, x2, px_2]
  simp only [px_lt]
  have e14 : (gm_ui C1 2 1 0).1 1 4 = C1.1 1 4 := by rw [px_ui0 _ _ _ _ _ (by omega)]
  have e15 : (gm_ui C1 2 1 0).1 1 5 = C1.1 1 5 := by rw [px_ui0 _ _ _ _ _ (by omega)]
  rw [e14, e15]
  rcases x5 with ⟨rfl, y1, y2, d', nr', nn', np', kd', g', mt', O⟩ | ⟨f, w', q, f0, f4, rfl, hCP, c5, mm⟩
  · rw [y1, if_pos (show nI 0 = (0 : Int32) from rfl), if_pos (show nI 0 ≤ (0 : Int32) by decide)]
    obtain ⟨z0, z1, z2, z3, z4, z5, z6, z7, z8⟩ := id O
    have hd' := px_V0_d z0
    have ct4 : px_CT (gm_ui (gm_ui C1 2 1 0) 0 8 (-1)) 4 d' nr' nn' np' kd' g' := px_CT_k z3 (by rw [px_ui0 _ _ _ _ _ (by omega), px_ui0 _ _ _ _ _ (by omega)]) (by rw [px_ui0 _ _ _ _ _ (by omega), px_ui0 _ _ _ _ _ (by omega)]) (by rw [px_ui0 _ _ _ _ _ (by omega), px_ui0 _ _ _ _ _ (by omega)]) (by rw [px_ui0 _ _ _ _ _ (by omega), px_ui0 _ _ _ _ _ (by omega)])
    obtain ⟨C3, a1, a2, a3, a4⟩ := px_copy_CT (t := 8) (o := 4) (Or.inr (by omega)) z0.2.1 z0.2.2.1 z0.2.2.2.1 ct4
    have q3 : ∀ t, 12 ≤ t → C3.1 t = C.1 t := fun t ht => by rw [a3 t (by omega), px_ui0 _ _ _ _ _ (by omega), px_ui0 _ _ _ _ _ (by omega), F1.1 t (by omega) (by omega)]
    have q3j : C3.2 = C.2 := by rw [a4, px_ui2, px_ui2, F1.2]
    have hTO : px_TO C3 d nr g := by
      have := px_TB_TO r4 (px_V0_d r0) r0.2.1 r1.2.1
      obtain ⟨o1, o2, o3, o4, o5⟩ := this
      exact ⟨by rw [q3 12 (by omega)]; exact o1, by rw [q3 12 (by omega)]; exact o2, o3, o4, fun r hr => by rw [q3 18 (by omega), q3j]; exact o5 r hr⟩
    obtain ⟨C4, b1, b2, b3, b4⟩ := px_follow (fl := fl) (g := g') (S := C3) hf hd' (fun q => by have := z0.2.2.2.2.1; have := z0.1; omega) z0.2.1 z1.1 z1.2.1 hTO a2.1 a2.2.1 a2.2.2.2.1 a2.2.2.2.2.2.2.1
    have q4 : ∀ t, 22 ≤ t → C4.1 t = C.1 t := fun t ht => by rw [b3 t (by omega) (by omega) (by omega) (by omega), q3 t (by omega)]
    have q4j : ∀ t, (t < 14 ∨ 19 < t) → C4.2 t = C.2 t := fun t ht => by rw [b4 t ht, q3j]
    have ct8 : px_CT C4 8 d' nr' nn' np' kd' g' := px_CT_k a2 (b3 _ (by omega) (by omega) (by omega) (by omega)) (b3 _ (by omega) (by omega) (by omega) (by omega)) (b3 _ (by omega) (by omega) (by omega) (by omega)) (b3 _ (by omega) (by omega) (by omega) (by omega))
    have d8 : (gm_ui C4 22 2 0).1 8 3 = nI d' := by rw [px_ui0 _ _ _ _ _ (by omega)]; exact ct8.1
    obtain ⟨C6, c1, c2, c3, c4⟩ := px_forget (fl := fl) (C := gm_ui C4 22 2 0) (d := d') (by omega) hd'
    obtain ⟨C8, i1, i2, i3, i4, i5⟩ := px_imgs (fl := fl) (gm_ui C6 92 2 0) (by omega)
    rw [a1, px_1, b1, px_1, d8, c1, px_1, i1, px_1]
    have Q : ∀ t, t ≠ 22 → t ≠ 88 → t ≠ 89 → t ≠ 92 → t ≠ 96 → t ≠ 101 → C8.1 t = C4.1 t := fun t h1 h2 h3 h4 h5 h6 => by rw [i2 t h5 h6, px_ui0 _ _ _ _ _ h4, c2 t h2 h3, px_ui0 _ _ _ _ _ h1]
    have Qj : C8.2 = C4.2 := by rw [i3, px_ui2, c3, px_ui2]
    have c8 : C8.1 8 8 = nI np' := by rw [Q 8 (by omega) (by omega) (by omega) (by omega) (by omega) (by omega)]; exact ct8.2.2.2.2.2.1
    have F20 : px_FM M1 M1 := px_FM_r M1
    have O20 : px_OD C1 (gm_ui M1 0 9 0) d' nr' nn' np' kd' g' mt' := by
      have fm : px_FM M1 (gm_ui M1 0 9 0) → px_OD C1 (gm_ui M1 0 9 0) d' nr' nn' np' kd' g' mt' := fun h => px_OD_k O (px_F1_r C1) rfl h
      obtain ⟨p0, p1, p2, p3, ⟨p4, p5, p6, p7, p8, p9⟩, ⟨p10, p11⟩, p12, p13, p14⟩ := id O
      have mk : ∀ k, k ≠ 9 → (gm_ui M1 0 9 0).1 0 k = M1.1 0 k := fun k hk => by rw [px_ui, if_pos rfl, if_neg hk]
      refine ⟨p0, p1, p2, p3, ⟨by rw [mk 14 (by omega)]; exact p4, by rw [mk 15 (by omega)]; exact p5, by rw [mk 17 (by omega)]; exact p6, by rw [mk 18 (by omega)]; exact p7, by rw [mk 22 (by omega)]; exact p8, by rw [mk 25 (by omega)]; exact p9⟩, ⟨p10, by rw [mk 16 (by omega)]; exact p11⟩, ?_, ?_, ?_⟩
      · rw [px_ui0 _ _ _ _ _ (by omega), px_ui0 _ _ _ _ _ (by omega), px_ui0 _ _ _ _ _ (by omega)]; exact p12
      · rw [px_ui0 _ _ _ _ _ (by omega), px_ui0 _ _ _ _ _ (by omega)]; exact p13
      · rw [px_ui0 _ _ _ _ _ (by omega)]; exact p14
    obtain ⟨M22, j1, j2, j3, j4⟩ := px_takeRead (fl := fl) (by omega) O20
    rw [j1, px_1, show (0 : Int32) = nI 0 from rfl, px_ck _ (by decide) (by decide), nI_clamp (by decide), show (1 : Int32) = nI 1 from rfl, px_ck _ (by decide) (by decide), nI_clamp (by decide), show vp_nar .boolean (nI 0) = nI 0 from rfl]
    have hMf : ∃ Mf, Mf = gm_ui (gm_ui (gm_ui (gm_ui (gm_ui M22 0 29 (nI 0)) 0 32 (nI 0)) 0 27 (nI 0)) 16 0 (nI 0)) 16 1 (nI 0) := ⟨_, rfl⟩
    obtain ⟨Mf, eMf⟩ := hMf
    rw [← eMf]
    have Mk : ∀ k, k ≠ 29 → k ≠ 32 → k ≠ 27 → Mf.1 0 k = M22.1 0 k := fun k h1 h2 h3 => by rw [eMf, px_ui0 _ _ _ _ _ (by omega), px_ui0 _ _ _ _ _ (by omega), px_ui, if_pos rfl, if_neg h3, px_ui, if_pos rfl, if_neg h2, px_ui, if_pos rfl, if_neg h1]
    have Mt : ∀ t, t ≠ 0 → t ≠ 16 → Mf.1 t = M22.1 t := fun t h1 h2 => by rw [eMf, px_ui0 _ _ _ _ _ h2, px_ui0 _ _ _ _ _ h2, px_ui0 _ _ _ _ _ h1, px_ui0 _ _ _ _ _ h1, px_ui0 _ _ _ _ _ h1]
    have M29 : Mf.1 0 29 = nI 0 := by rw [eMf]; simp [px_ui]
    have M32 : Mf.1 0 32 = nI 0 := by rw [eMf]; simp [px_ui]
    have M27 : Mf.1 0 27 = nI 0 := by rw [eMf]; simp [px_ui]
    have M160 : Mf.1 16 0 = nI 0 := by rw [eMf]; simp [px_ui]
    have M161 : Mf.1 16 1 = nI 0 := by rw [eMf]; simp [px_ui]
    have hMT : px_MT Mf d' nr' nn' np' kd' g' := px_MT_k j2 (fun k hk => Mk k (by omega) (by omega) (by omega)) (Mt 1 (by omega) (by omega)) (Mt 2 (by omega) (by omega))
    rw [c8, hMT.2.2.2.2.1]
    have m7 : Mf.1 0 7 = M.1 0 7 := by rw [Mk 7 (by omega) (by omega) (by omega), j4 7 (by omega), px_ui, if_pos rfl, if_neg (by omega), F2.2 7 (by omega)]
    have m9' : Mf.1 0 9 = nI 0 := by rw [Mk 9 (by omega) (by omega) (by omega), j4 9 (by omega), px_ui, if_pos rfl, if_pos rfl]; rfl
    have m10' : Mf.1 0 10 = -1 := by rw [Mk 10 (by omega) (by omega) (by omega), j4 10 (by omega), px_ui, if_pos rfl, if_neg (by omega)]; exact y2
    have c22 : C8.1 22 = (gm_ui C4 22 2 0).1 22 := by rw [i2 22 (by omega) (by omega), px_ui0 _ _ _ _ _ (by omega), c2 22 (by omega) (by omega)]
    refine ⟨_, _, _, rfl, rfl, d', nr', nn', np', kd', g', z0, z1, px_CT_k ct8 (Q _ (by omega) (by omega) (by omega) (by omega) (by omega) (by omega)) (Q _ (by omega) (by omega) (by omega) (by omega) (by omega) (by omega)) (Q _ (by omega) (by omega) (by omega) (by omega) (by omega) (by omega)) (Q _ (by omega) (by omega) (by omega) (by omega) (by omega) (by omega)), hMT, px_TB_k b2 (Q 12 (by omega) (by omega) (by omega) (by omega) (by omega) (by omega)) (Q 18 (by omega) (by omega) (by omega) (by omega) (by omega) (by omega)) (fun t _ _ => by rw [Qj]) z0.2.1, ⟨0, tx, by omega, ?_, m9', fun i hi => by omega⟩, ?_, px_Sd_k r7 (by rw [Qj, q4j 0 (by omega)]) m7, px_V0_Un0 hw ?_ ?_ M27, ?_, px_Gu_k (c4 Mf M29) (by rw [i2 88 (by omega) (by omega), px_ui0 _ _ _ _ _ (by omega)]) (by rw [i2 89 (by omega) (by omega), px_ui0 _ _ _ _ _ (by omega)]) rfl rfl rfl, ⟨0, fun _ => 0, fun _ => false, by omega, by rw [i2 92 (by omega) (by omega), px_ui, if_pos rfl, if_pos rfl]; rfl, M32, fun i hi => by omega⟩⟩
    · rw [Q 2 (by omega) (by omega) (by omega) (by omega) (by omega) (by omega), b3 2 (by omega) (by omega) (by omega) (by omega), a3 2 (by omega), px_ui0 _ _ _ _ _ (by omega), px_ui, if_pos rfl, if_pos rfl]; rfl
    · unfold px_Fl
      rw [Q 0 (by omega) (by omega) (by omega) (by omega) (by omega) (by omega), b3 0 (by omega) (by omega) (by omega) (by omega), a3 0 (by omega), px_ui, if_pos rfl, if_pos rfl, m10']
    · rw [c22, px_ui, if_pos rfl, if_neg (by omega), q4 22 (by omega)]; exact u1
    · rw [c22, px_ui, if_pos rfl, if_pos rfl]; rfl
    · intro i hi
      refine ⟨false, ?_, ?_, fun q => nomatch q⟩
      · rcases (show i = 0 ∨ i = 1 by omega) with rfl | rfl
        · exact i4
        · exact i5
      · rcases (show i = 0 ∨ i = 1 by omega) with rfl | rfl
        · exact M160
        · exact M161
  · rw [hCP.2.2.2.1, if_neg (px_nf f0 f4), c5, if_neg (px_nfl f0 f4)]
    have e14' : (gm_ui (gm_ui C1 2 1 0) 0 8 (nI w')).1 1 4 = nI f := by rw [px_ui0 _ _ _ _ _ (by omega), px_ui0 _ _ _ _ _ (by omega)]; exact hCP.2.2.2.1
    rw [e14']
    have ct : ∀ t, t ≠ 0 → t ≠ 1 → t ≠ 2 → (t < 4 ∨ 7 < t) → (gm_ui (gm_ui C1 2 1 0) 0 8 (nI w')).1 t = C.1 t := fun t h0 h1 h2 h3 => by rw [px_ui0 _ _ _ _ _ h0, px_ui0 _ _ _ _ _ h2, F1.1 t h1 h3]
    have cj : (gm_ui (gm_ui C1 2 1 0) 0 8 (nI w')).2 = C.2 := by rw [px_ui2, px_ui2, F1.2]
    have mk : ∀ k, k ≠ 9 → (k < 10 ∨ 25 < k) → (gm_ui M1 0 9 0).1 0 k = M.1 0 k := fun k h1 h2 => by rw [px_ui, if_pos rfl, if_neg h1, F2.2 k h2]
    have mt' : ∀ t, t ≠ 0 → (t < 4 ∨ 9 < t) → (gm_ui M1 0 9 0).1 t = M.1 t := fun t h1 h2 => by rw [px_ui0 _ _ _ _ _ h1, F2.1 t h1 h2]
    refine ⟨_, _, _, rfl, rfl, d, nr, nn, np, kd, g, r0, r1, px_CT_k r2 (ct _ (by omega) (by omega) (by omega) (by omega)) (ct _ (by omega) (by omega) (by omega) (by omega)) (ct _ (by omega) (by omega) (by omega) (by omega)) (ct _ (by omega) (by omega) (by omega) (by omega)), px_MT_k r3 (fun k hk => mk k (by omega) (by omega)) (mt' 1 (by omega) (by omega)) (mt' 2 (by omega) (by omega)), px_TB_k r4 (ct 12 (by omega) (by omega) (by omega) (by omega)) (ct 18 (by omega) (by omega) (by omega) (by omega)) (fun t _ _ => by rw [cj]) r0.2.1, ⟨0, tx, by omega, by rw [px_ui0 _ _ _ _ _ (by omega), px_ui, if_pos rfl, if_pos rfl]; rfl, by rw [px_ui, if_pos rfl, if_pos rfl]; rfl, fun i hi => by omega⟩, ?_, px_Sd_k r7 (by rw [cj]) (mk 7 (by omega) (by omega)), px_Un_k r8 (fun t _ _ => ct t (by omega) (by omega) (by omega) (by omega)) (mk 27 (by omega) (by omega)) (mt' 10 (by omega) (by omega)), px_Im_k r9 (fun t _ _ => ct t (by omega) (by omega) (by omega) (by omega)) (fun t _ _ => by rw [cj]) (mt' 15 (by omega) (by omega)) (mt' 16 (by omega) (by omega)), px_Gu_k r10 (ct 88 (by omega) (by omega) (by omega) (by omega)) (ct 89 (by omega) (by omega) (by omega) (by omega)) (mk 29 (by omega) (by omega)) (mt' 11 (by omega) (by omega)) (mt' 12 (by omega) (by omega)), px_Bo_k r11 (ct 92 (by omega) (by omega) (by omega) (by omega)) (ct 93 (by omega) (by omega) (by omega) (by omega)) (ct 94 (by omega) (by omega) (by omega) (by omega)) (mk 32 (by omega) (by omega)) (mt' 13 (by omega) (by omega)) (mt' 14 (by omega) (by omega))⟩
    unfold px_Fl
    rw [px_ui, if_pos rfl, if_pos rfl, px_ui, if_pos rfl, if_neg (by omega), mm]
end PT2
