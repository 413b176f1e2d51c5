section PO7
variable {C M : gm_M} {d nr nn np : Nat} {kd g : Nat → Nat} {fl : Nat}
theorem px_Gu_o (h : px_Gu C M d) : ∃ (s : Nat) (sn : Nat → Nat) (ss : Nat → Bool), px_Se M d s sn ss ∧ px_GC C d (px_cl d s sn ss) ∧ C.1 88 3 = nI s ∧ (C.1 88 6 = nI 0 ∨ (C.1 88 6 = nI 1 ∧ C.1 88 5 = (px_aq d (px_cl d s sn ss) 100).1)) := by
  obtain ⟨s, sn, ss, h1, h2, h3, h4, h5, h6, h7, h8⟩ := h
  refine ⟨s, sn, ss, ⟨h1, h3, h5⟩, ⟨h4, h6, fun i x hx => by rw [Nat.zero_add]; exact h7 i x hx, px_cl_len, fun x hx => px_cl_mem hx, fun q => ?_⟩, h2, h8⟩
  obtain ⟨x, hx⟩ := List.exists_mem_of_ne_nil _ q
  exact px_cl_d hx
theorem px_Gu_i {s : Nat} {sn : Nat → Nat} {ss : Nat → Bool} (h1 : px_Se M d s sn ss) (h2 : px_GC C d (px_cl d s sn ss)) (h3 : C.1 88 3 = nI s) (h4 : C.1 88 6 = nI 0 ∨ (C.1 88 6 = nI 1 ∧ C.1 88 5 = (px_aq d (px_cl d s sn ss) 100).1)) : px_Gu C M d :=
  ⟨s, sn, ss, h1.1, h3, h1.2.1, h2.1, h1.2.2, h2.2.1, fun i x hx => by have := h2.2.2.1 i x hx; rw [Nat.zero_add] at this; exact this, h4⟩
theorem px_cl_see {s n : Nat} {sn : Nat → Nat} {ss : Nat → Bool} (b : Bool) : px_cl d (s + 1) (va_up sn s n) (fun i => if i = s then b else ss i) = (px_cl d s sn ss).filter (fun x => px_yx d x n == b) := by
  rw [px_cl_eq, px_cl_eq, List.filter_filter]
  congr 1
  funext x
  unfold px_cb
  simp only [px_al]
  rw [px_al_c (f' := px_fit d sn ss x) s (fun i hi => by unfold px_fit; dsimp only; rw [px_upn (by omega), if_neg (by omega)])]
  have : px_fit d (va_up sn s n) (fun i => if i = s then b else ss i) x s = (px_yx d x n == b) := by unfold px_fit; dsimp only; rw [px_ups, if_pos rfl]
  rw [this, ← Bool.and_assoc, Bool.and_comm]
theorem px_R_gb {C2 M2 : gm_M} (R : px_R1 C M d nr nn np kd g) (hG : px_Gu C2 M2 d) (hB : px_Bo C2 M2 d) (fc : ∀ t, (t < 88 ∨ 96 ≤ t) → C2.1 t = C.1 t) (fc2 : C2.2 = C.2) (mk : ∀ k, k ≠ 29 → k ≠ 32 → M2.1 0 k = M.1 0 k) (mt : ∀ t, t ≠ 0 → (t < 11 ∨ 14 < t) → M2.1 t = M.1 t) : px_R1 C2 M2 d nr nn np kd g := by
  obtain ⟨r0, r1, r2, r3, r4, r5, r6, r7, r8, r9, r10, r11⟩ := R
  exact ⟨r0, r1, px_CT_k r2 (fc _ (by omega)) (fc _ (by omega)) (fc _ (by omega)) (fc _ (by omega)), px_MT_k r3 (fun k hk => mk k (by omega) (by omega)) (mt 1 (by omega) (by omega)) (mt 2 (by omega) (by omega)), px_TB_k r4 (fc 12 (by omega)) (fc 18 (by omega)) (fun t _ _ => by rw [fc2]) r0.2.1, px_Tx_k r5 (fc 2 (by omega)) (fc 3 (by omega)) (mk 9 (by omega) (by omega)) (mt 3 (by omega) (by omega)), px_Fl_k r6 (by rw [fc 0 (by omega)]) (mk 10 (by omega) (by omega)), px_Sd_k r7 (by rw [fc2]) (mk 7 (by omega) (by omega)), px_Un_k r8 (fun t _ _ => fc t (by omega)) (mk 27 (by omega) (by omega)) (mt 10 (by omega) (by omega)), px_Im_k r9 (fun t _ _ => fc t (by omega)) (fun t _ _ => by rw [fc2]) (mt 15 (by omega) (by omega)) (mt 16 (by omega) (by omega)), hG, hB⟩
theorem op_see (a0 : Int32) (b : Bool) (hf : 20000 ≤ fl) (R : px_R C M) : ∃ x C' M', Lt_see fl a0 (nI b.toNat) C = some (x, C') ∧ Mo_see a0 (nI b.toNat) M = some (x, M') ∧ px_R C' M' := by
  obtain ⟨d, nr, nn, np, kd, g, R⟩ := id R
  obtain ⟨r0, r1, r2, r3, r4, r5, r6, r7, r8, r9, r10, r11⟩ := id R
  obtain ⟨s, sn, ss, ⟨s8, s29, sall⟩, hG, h3, hq⟩ := px_Gu_o r10
  have hd := px_V0_d r0
  have hnum := px_num_le hd
  unfold Lt_see Mo_see
  rcases px_hasNum fl a0 (by omega) r2 r3 r0 with ⟨e1, e2⟩ | ⟨n, hn, rfl, e1, e2⟩
  · rw [e1, e2]
    simp only [px_1, px_e0, if_true]
    exact ⟨_, _, _, rfl, rfl, _, _, _, _, _, _, R⟩
  · rw [e1, e2]
    simp only [px_1, px_e1, if_false]
    rw [h3, s29]
    by_cases c : s < 8
    · obtain ⟨C', a1, a2, a3, a4, a5, a6⟩ := px_take (fl := fl) (n := n) b (by omega) hd (by omega) hG
      rw [if_pos (show nI s < (8 : Int32) from (nI_ltI (b := 8) (by omega) (by omega)).mpr c), if_neg (show ¬ nI s = (8 : Int32) from fun q => by have := (nI_eq (b := 8) (by omega) (by omega)).mp q; omega), a1]
      simp only [px_1, px_lt]
      have m1 : (gm_ui M 11 s (nI n)).1 0 29 = nI s := by rw [px_ui0 _ _ _ _ _ (by omega)]; exact s29
      rw [px_ck _ (by omega) (by decide), nI_clamp (by omega), m1, px_ck _ (by omega) (by decide), nI_clamp (by omega), px_nb]
      have m2 : (gm_ui (gm_ui M 11 s (nI n)) 12 s (nI b.toNat)).1 0 29 = nI s := by rw [px_ui0 _ _ _ _ _ (by omega)]; exact m1
      rw [m2, show nI s + 1 = nI (s + 1) from nI_1 s]
      have m3 : (gm_ui (gm_ui (gm_ui M 11 s (nI n)) 12 s (nI b.toNat)) 0 29 (nI (s + 1))).1 0 29 = nI (s + 1) := by rw [px_ui, if_pos rfl, if_pos rfl]
      have c3 : C'.1 88 3 = nI (s + 1) := by rw [a5, h3]; exact nI_1 s
      rw [m3, c3]
      refine ⟨_, _, _, rfl, rfl, d, nr, nn, np, kd, g, px_R_gb R (px_Gu_i (s := s + 1) (sn := va_up sn s n) (ss := fun i => if i = s then b else ss i) ⟨by omega, m3, fun i hi => ?_⟩ (by rw [px_cl_see]; exact a2) c3 (Or.inl a6)) (px_Bo_k r11 (a3 92 (by omega) (by omega) (by omega) (by omega)) (a3 93 (by omega) (by omega) (by omega) (by omega)) (a3 94 (by omega) (by omega) (by omega) (by omega)) (by rw [px_ui, if_pos rfl, if_neg (by omega), px_ui0 _ _ _ _ _ (by omega), px_ui0 _ _ _ _ _ (by omega)]) (by rw [px_ui0 _ _ _ _ _ (by omega), px_ui0 _ _ _ _ _ (by omega), px_ui0 _ _ _ _ _ (by omega)]) (by rw [px_ui0 _ _ _ _ _ (by omega), px_ui0 _ _ _ _ _ (by omega), px_ui0 _ _ _ _ _ (by omega)])) (fun t ht => a3 t (by omega) (by omega) (by omega) (by omega)) a4 (fun k k1 k2 => by rw [px_ui, if_pos rfl, if_neg k1, px_ui0 _ _ _ _ _ (by omega), px_ui0 _ _ _ _ _ (by omega)]) (fun t t1 t2 => by rw [px_ui0 _ _ _ _ _ t1, px_ui0 _ _ _ _ _ (by omega), px_ui0 _ _ _ _ _ (by omega)])⟩
      simp only [px_ui]
      by_cases e : i = s
      · subst e
        simp only [px_ups, if_true]
        exact ⟨hn, rfl, rfl⟩
      · rw [px_upn e]
        simp only [e, if_false, if_true]
        exact sall i (by omega)
    · rw [if_neg (show ¬ nI s < (8 : Int32) from fun q => c ((nI_ltI (b := 8) (by omega) (by omega)).mp q)), if_pos (show nI s = (8 : Int32) from by rw [show s = 8 by omega]; rfl)]
      exact ⟨_, _, _, rfl, rfl, _, _, _, _, _, _, R⟩
theorem op_could (a0 a1 : Int32) (hf : 20000 ≤ fl) (R : px_R C M) : ∃ x, Lt_could a0 a1 C = some x ∧ Mo_could fl a0 a1 M = some x := by
  obtain ⟨d, nr, nn, np, kd, g, R⟩ := id R
  obtain ⟨r0, r1, r2, r3, r4, r5, r6, r7, r8, r9, r10, r11⟩ := id R
  obtain ⟨s, sn, ss, hS, hG, h3, hq⟩ := px_Gu_o r10
  have hd := px_V0_d r0
  have hl := px_cl_len (d := d) (s := s) (sn := sn) (ss := ss)
  have i1 := px_in (Y := 0) (Z := 2) a1 0 2 rfl rfl
  unfold Lt_could Mo_could
  rw [i1, show (0 : Int32).toInt = 0 from rfl, show (2 : Int32).toInt = 2 from rfl]
  simp only [px_1]
  by_cases b1 : a1 < 0
  · have := px_toI b1
    rw [if_pos b1, decide_eq_false (by omega)]
    exact ⟨_, rfl, rfl⟩
  · obtain ⟨q, hqq, rfl⟩ := nI_of b1
    rw [if_neg b1, nI_toInt hqq]
    by_cases b2 : q ≤ 2
    · rw [if_pos (show nI q ≤ (2 : Int32) from (nI_leI (b := 2) hqq (by omega)).mpr b2), decide_eq_true (by omega)]
      simp only [Bool.toNat_true, px_e1, if_false]
      by_cases b3 : a0 < 0
      · rw [if_pos b3]
        refine ⟨_, rfl, ?_⟩
        obtain ⟨z, hz⟩ : ∃ z, fl = z + 1 := ⟨fl - 1, by omega⟩
        have e1 : Mo_could_L20 fl a0 (nI q) M fl 0 0 = Mo_could_L20 fl a0 (nI q) M (z + 1) 0 0 := by rw [← hz]
        rw [e1]
        show Mo_could_L20_b fl a0 (nI q) M (Mo_could_L20 fl a0 (nI q) M z) 0 0 = _
        unfold Mo_could_L20_b
        rw [if_neg (show ¬ (171 : Int32) ≤ 0 by decide), if_pos b3]
      · obtain ⟨k, hk, rfl⟩ := nI_of b3
        have L := px_could_L (fl := fl) (k := k) (a1 := nI q) (by omega) r3.1 hd hk hS fl 0 (by omega) (by simp [px_cn]) (by omega)
        have L : (∀ y, (px_cl d s sn ss)[k]? = some y → Mo_could_L20 fl (nI k) (nI q) M fl 0 0 = _) ∧ ((px_cl d s sn ss)[k]? = none → Mo_could_L20 fl (nI k) (nI q) M fl 0 0 = some (-1)) := L
        rw [if_neg b3, hG.2.1]
        by_cases b4 : k < (px_cl d s sn ss).length
        · obtain ⟨y, hy⟩ : ∃ y, (px_cl d s sn ss)[k]? = some y := ⟨_, List.getElem?_eq_getElem b4⟩
          have hmem : y ∈ px_cl d s sn ss := List.mem_of_getElem? hy
          have hyt := px_rtold (px_cl_mem hmem)
          have hcell := hG.2.2.1 k y hy
          rw [Nat.zero_add] at hcell
          rw [if_pos ((nI_ltI (by omega) (by omega)).mpr b4), px_ck _ (by omega) (by decide), nI_clamp (by omega), hcell, L.1 y hy]
          simp only [px_lt]
          unfold Ru_kindOf Ru_aOf Ru_bOf
          have z1 : nI (px_rc y) / 10000 = nI (px_rk y) := px_code_k hyt
          have z2 : gm_rm (nI (px_rc y) / 100) 100 = nI (px_ra y) := px_code_a hyt
          have z3 : gm_rm (nI (px_rc y)) 100 = nI (px_rb y) := px_code_b hyt
          rw [z1, z2, z3]
          simp only [px_1]
          split
          · exact ⟨_, rfl, rfl⟩
          · split
            · exact ⟨_, rfl, rfl⟩
            · exact ⟨_, rfl, rfl⟩
        · rw [if_neg (fun z => b4 ((nI_ltI (by omega) (by omega)).mp z)), L.2 (List.getElem?_eq_none (by omega))]
          exact ⟨_, rfl, rfl⟩
    · rw [if_neg (show ¬ nI q ≤ (2 : Int32) from fun z => b2 ((nI_leI (b := 2) hqq (by omega)).mp z)), decide_eq_false (by omega)]
      exact ⟨_, rfl, rfl⟩
theorem op_tear (hf : 20000 ≤ fl) (R : px_R C M) : ∃ x C' M', Lt_tear fl C = some (x, C') ∧ Mo_tear M = some (x, M') ∧ px_R C' M' := by
  obtain ⟨d, nr, nn, np, kd, g, R⟩ := id R
  obtain ⟨r0, r1, r2, r3, r4, r5, r6, r7, r8, r9, r10, ⟨b, bn, bs, b1, b2, b3, b4⟩⟩ := id R
  obtain ⟨s, sn, ss, ⟨s8, s29, sall⟩, hG, h3, hq⟩ := px_Gu_o r10
  have hd := px_V0_d r0
  obtain ⟨C1, a1, a2, a3, a4⟩ := px_forget (fl := fl) (C := C) (by omega) hd
  unfold Lt_tear Mo_tear
  rw [r2.1, a1, h3, b2, s29, b3]
  simp only [px_1, px_lt]
  have mk : ∀ k, k ≠ 29 → k ≠ 32 → (gm_ui (gm_ui M 0 29 0) 0 32 0).1 0 k = M.1 0 k := fun k k1 k2 => by rw [px_ui, if_pos rfl, if_neg k2, px_ui, if_pos rfl, if_neg k1]
  have mt : ∀ t, t ≠ 0 → (gm_ui (gm_ui M 0 29 0) 0 32 0).1 t = M.1 t := fun t ht => by rw [px_ui0 _ _ _ _ _ ht, px_ui0 _ _ _ _ _ ht]
  have m29 : (gm_ui (gm_ui M 0 29 0) 0 32 0).1 0 29 = nI 0 := by rw [px_ui, if_pos rfl, if_neg (by omega), px_ui, if_pos rfl, if_pos rfl]; rfl
  have m32 : (gm_ui (gm_ui M 0 29 0) 0 32 0).1 0 32 = nI 0 := by rw [px_ui, if_pos rfl, if_pos rfl]; rfl
  refine ⟨_, _, _, rfl, rfl, d, nr, nn, np, kd, g, px_R_gb R (px_Gu_k (a4 _ m29) (px_ui0 _ _ _ _ _ (by omega)) (px_ui0 _ _ _ _ _ (by omega)) rfl rfl rfl) ⟨0, fun _ => 0, fun _ => false, by omega, by rw [px_ui, if_pos rfl, if_pos rfl]; rfl, m32, fun i hi => by omega⟩ (fun t ht => by rw [px_ui0 _ _ _ _ _ (by omega), a2 t (by omega) (by omega)]) (by rw [px_ui2, a3]) mk (fun t t1 _ => mt t t1)⟩
theorem op_told (a0 : Int32) (hf : 20000 ≤ fl) (R : px_R C M) : ∃ x C', Lt_told fl a0 C = some (x, C') ∧ Mo_told fl a0 M = some x ∧ px_R C' M := by
  have RR := R
  obtain ⟨d, nr, nn, np, kd, g, R⟩ := id R
  obtain ⟨r0, r1, r2, r3, r4, r5, r6, r7, r8, r9, r10, r11⟩ := id R
  obtain ⟨s, sn, ss, hS, hG, h3, hq⟩ := px_Gu_o r10
  have hd := px_V0_d r0
  obtain ⟨c1, c2, c3, c4, c5, c6, -⟩ := id r2
  obtain ⟨m1, m2, m3, m4, m5, m6, -⟩ := id r3
  unfold Lt_told Mo_told
  by_cases e0 : a0 = 0
  · rw [if_pos e0, if_pos e0, c1, m1]; exact ⟨_, _, rfl, rfl, RR⟩
  rw [if_neg e0, if_neg e0]
  by_cases e1 : a0 = 1
  · rw [if_pos e1, if_pos e1, c2, show (0 : Int32) = nI 0 from rfl, px_ck _ (by decide) (by decide), nI_clamp (by decide), m6 0 (by omega)]; exact ⟨_, _, rfl, rfl, RR⟩
  rw [if_neg e1, if_neg e1]
  by_cases e2 : a0 = 2
  · rw [if_pos e2, if_pos e2, c4, m3]; exact ⟨_, _, rfl, rfl, RR⟩
  rw [if_neg e2, if_neg e2]
  by_cases e3 : a0 = 3
  · rw [if_pos e3, if_pos e3, c5, m4]; exact ⟨_, _, rfl, rfl, RR⟩
  rw [if_neg e3, if_neg e3]
  by_cases e4 : a0 = 4
  · rw [if_pos e4, if_pos e4, c6, m5]; exact ⟨_, _, rfl, rfl, RR⟩
  rw [if_neg e4, if_neg e4]
  by_cases e5 : a0 = 5
  · obtain ⟨n, tx, t1, t2, t3, t4⟩ := id r5
    rw [if_pos e5, if_pos e5, t2, t3]; exact ⟨_, _, rfl, rfl, RR⟩
  rw [if_neg e5, if_neg e5]
  by_cases e6 : a0 = 6
  · rw [if_pos e6, if_pos e6, c3, show (41 : Int32) = nI 41 from rfl, px_ck _ (by decide) (by decide), nI_clamp (by decide), m6 41 (by omega)]; exact ⟨_, _, rfl, rfl, RR⟩
  rw [if_neg e6, if_neg e6]
  by_cases e7 : a0 = 7
  · rw [if_pos e7, if_pos e7, r4.2.2.2.2.2.1, px_allL hf r3 r0 r1]; exact ⟨_, _, rfl, rfl, RR⟩
  rw [if_neg e7, if_neg e7]
  by_cases e8 : a0 = 8
  · obtain ⟨x, x1, x2⟩ := qx_best (fl := fl) hf r0 r1 r2 r3 r4
    rw [if_pos e8, if_pos e8, x1, x2]; exact ⟨_, _, rfl, rfl, RR⟩
  rw [if_neg e8, if_neg e8]
  by_cases e9 : a0 = 9
  · obtain ⟨x, x1, x2⟩ := qx_luckiest (fl := fl) (by omega) r0 r2 r3
    rw [if_pos e9, if_pos e9, x1, x2]; exact ⟨_, _, rfl, rfl, RR⟩
  rw [if_neg e9, if_neg e9]
  by_cases e10 : a0 = 10
  · rw [if_pos e10, if_pos e10, h3, hS.2.1]; exact ⟨_, _, rfl, rfl, RR⟩
  rw [if_neg e10, if_neg e10]
  by_cases e11 : a0 = 11
  · rw [if_pos e11, if_pos e11, hG.2.1, px_manyCould (by omega) m1 hd hS]; exact ⟨_, _, rfl, rfl, RR⟩
  rw [if_neg e11, if_neg e11]
  by_cases e12 : a0 = 12
  · obtain ⟨C', x1, x2, x3, x4, x5, x6⟩ := px_bestq (fl := fl) (by omega) hd hG hq
    rw [if_pos e12, if_pos e12, x1, px_askNext (by omega) m1 hd hS, px_2, px_1]
    refine ⟨_, _, rfl, rfl, d, nr, nn, np, kd, g, ?_⟩
    obtain ⟨r0, r1, r2, r3, r4, r5, r6, r7, r8, r9, r10, r11⟩ := id R
    exact px_R_gb R (px_Gu_i hS (px_GC_k hG (x4 2 (by omega) (by omega)) (x4 4 (by omega) (by omega)) (x2 89 (by omega) (by omega) (by omega))) (by rw [x4 3 (by omega) (by omega)]; exact h3) (Or.inr ⟨x5, x6⟩)) (px_Bo_k r11 (x2 92 (by omega) (by omega) (by omega)) (x2 93 (by omega) (by omega) (by omega)) (x2 94 (by omega) (by omega) (by omega)) rfl rfl rfl) (fun t ht => x2 t (by omega) (by omega) (by omega)) x3 (fun _ _ _ => rfl) (fun _ _ _ => rfl)
  rw [if_neg e12, if_neg e12]
  by_cases e13 : a0 = 13
  · obtain ⟨b, bn, bs, b1, b2, b3, b4⟩ := id r11
    rw [if_pos e13, if_pos e13, b2, b3]; exact ⟨_, _, rfl, rfl, RR⟩
  rw [if_neg e13, if_neg e13]
  by_cases e14 : a0 = 14
  · obtain ⟨u, w, pg, u1, u2, u3, u4, u5, u6⟩ := id r8
    rw [if_pos e14, if_pos e14, u4, u5]; exact ⟨_, _, rfl, rfl, RR⟩
  rw [if_neg e14, if_neg e14]
  exact ⟨_, _, rfl, rfl, RR⟩
theorem op_ruleOf (a0 a1 : Int32) (hf : 20000 ≤ fl) (R : px_R C M) : ∃ x, Lt_ruleOf fl a0 a1 C = some x ∧ Mo_ruleOf fl a0 a1 M = some x := by
  obtain ⟨d, nr, nn, np, kd, g, R⟩ := R
  exact qx_ruleOf a0 a1 hf R.1 R.2.1 R.2.2.1 R.2.2.2.1 R.2.2.2.2.1
theorem op_rollOf (a0 a1 : Int32) (hf : 20000 ≤ fl) (R : px_R C M) : ∃ x, Lt_rollOf fl a0 a1 C = some x ∧ Mo_rollOf fl a0 a1 M = some x := by
  obtain ⟨d, nr, nn, np, kd, g, R⟩ := R
  exact qx_rollOf a0 a1 hf R.1 R.2.1 R.2.2.1 R.2.2.2.1 R.2.2.2.2.1
theorem op_rider (a0 a1 : Int32) (R : px_R C M) : ∃ x, Lt_rider a0 a1 C = some x ∧ Mo_rider a0 a1 M = some x := by
  obtain ⟨d, nr, nn, np, kd, g, R⟩ := R
  exact qx_rider a0 a1 R.1 R.2.2.1 R.2.2.2.1
theorem op_lucky (a0 a1 : Int32) (hf : 20000 ≤ fl) (R : px_R C M) : ∃ x, Lt_lucky fl a0 a1 C = some x ∧ Mo_lucky fl a0 a1 M = some x := by
  obtain ⟨d, nr, nn, np, kd, g, R⟩ := R
  exact qx_lucky a0 a1 hf R.1 R.2.1 R.2.2.1 R.2.2.2.1 R.2.2.2.2.1
theorem op_next (a0 : Int32) (hf : 20000 ≤ fl) (R : px_R C M) : ∃ x, Lt_next fl a0 C = some x ∧ Mo_next fl a0 M = some x := by
  obtain ⟨d, nr, nn, np, kd, g, R⟩ := R
  exact qx_next a0 hf R.1 R.2.1 R.2.2.1 R.2.2.2.1 R.2.2.2.2.1
theorem op_upTo (a0 a1 : Int32) (hf : 20000 ≤ fl) (R : px_R C M) : ∃ x, Lt_upTo fl a0 a1 C = some x ∧ Mo_upTo fl a0 a1 M = some x := by
  obtain ⟨d, nr, nn, np, kd, g, R⟩ := R
  exact qx_upTo a0 a1 hf R.1 R.2.1 R.2.2.1 R.2.2.2.1 R.2.2.2.2.1
theorem op_kth (a0 : Int32) (hf : 20000 ≤ fl) (R : px_R C M) : ∃ x, Lt_kth fl a0 C = some x ∧ Mo_kth fl a0 M = some x := by
  obtain ⟨d, nr, nn, np, kd, g, R⟩ := R
  exact qx_kth a0 hf R.1 R.2.1 R.2.2.2.1 R.2.2.2.2.1
theorem op_waits (a0 : Int32) (hf : 20000 ≤ fl) (R : px_R C M) : ∃ x, Lt_waits fl a0 C = some x ∧ Mo_waits fl a0 M = some x := by
  obtain ⟨d, nr, nn, np, kd, g, R⟩ := R
  exact qx_waits a0 hf R.1 R.2.1 R.2.2.2.1 R.2.2.2.2.1
theorem op_judge (hf : 20000 ≤ fl) (R : px_R C M) : ∃ x, Lt_judge fl C = some x ∧ Mo_judge fl M = some x := by
  obtain ⟨d, nr, nn, np, kd, g, R⟩ := R
  exact qx_judge hf R.1 R.2.1 R.2.2.2.1 R.2.2.2.2.1 R.2.2.2.2.2.2.2.2.2.2.2
end PO7
