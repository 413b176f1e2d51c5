theorem px_chr : ∀ t : Fin 256, vp_nar .char ((nI t.1).toUInt32 % 65536).toInt32 = nI t.1 := by decide +kernel
section PO6
variable {C M C2 M2 : gm_M} {d nr nn np : Nat} {kd g g2 : Nat → Nat} {fl : Nat}
theorem op_feed (a0 : Int32) (R : px_R C M) : ∃ x C' M', Lt_feed a0 C = some (x, C') ∧ Mo_feed a0 M = some (x, M') ∧ px_R C' M' := by
  obtain ⟨d, nr, nn, np, kd, g, R⟩ := id R
  obtain ⟨r0, r1, r2, r3, r4, ⟨n, tx, t1, t2, t3, t4⟩, r6, r7, r8, r9, r10, r11⟩ := id R
  have i1 := px_in (Y := 0) (Z := 255) a0 0 255 rfl rfl
  unfold Lt_feed Mo_feed
  rw [i1, show (0 : Int32).toInt = 0 from rfl, show (255 : Int32).toInt = 255 from rfl]
  simp only [px_1]
  by_cases c : a0 < 0
  · have := px_toI c
    rw [if_pos c, decide_eq_false (by omega)]
    exact ⟨_, _, _, rfl, rfl, _, _, _, _, _, _, R⟩
  · obtain ⟨v, hv, rfl⟩ := nI_of c
    rw [if_neg c, nI_toInt hv]
    by_cases c2 : v ≤ 255
    · rw [if_pos (show nI v ≤ (255 : Int32) from (nI_leI (b := 255) hv (by omega)).mpr c2), decide_eq_true (by omega)]
      simp only [Bool.toNat_true, px_e1, if_false]
      have hch := px_chr ⟨v, by omega⟩
      dsimp only at hch
      unfold Tx_add
      rw [t2, t3]
      by_cases c3 : n < 240
      · rw [if_pos (show nI n < (240 : Int32) from (nI_ltI (b := 240) (by omega) (by omega)).mpr c3), if_neg (show ¬ nI n = (240 : Int32) from fun q => by have := (nI_eq (b := 240) (by omega) (by omega)).mp q; omega), px_ck _ (by omega) (by decide), px_ck _ (by omega) (by decide), nI_clamp (by omega), hch]
        simp only [px_lt, px_2]
        have e1 : (gm_ui C 3 n (nI v)).1 2 1 = nI n := by rw [px_ui0 _ _ _ _ _ (by omega)]; exact t2
        have e2 : (gm_ui M 3 n (nI v)).1 0 9 = nI n := by rw [px_ui0 _ _ _ _ _ (by omega)]; exact t3
        rw [e1, e2, show nI n + 1 = nI (n + 1) from nI_1 n, if_neg (show ¬ (1 : Int32) = 0 by decide)]
        have f1 : (gm_ui (gm_ui C 3 n (nI v)) 2 1 (nI (n + 1))).1 2 1 = nI (n + 1) := by rw [px_ui, if_pos rfl, if_pos rfl]
        have f2 : (gm_ui (gm_ui M 3 n (nI v)) 0 9 (nI (n + 1))).1 0 9 = nI (n + 1) := by rw [px_ui, if_pos rfl, if_pos rfl]
        rw [f1, f2]
        have cf : ∀ t, t ≠ 2 → t ≠ 3 → (gm_ui (gm_ui C 3 n (nI v)) 2 1 (nI (n + 1))).1 t = C.1 t := fun t h h3 => by rw [px_ui0 _ _ _ _ _ h, px_ui0 _ _ _ _ _ h3]
        have mk : ∀ k, k ≠ 9 → (gm_ui (gm_ui M 3 n (nI v)) 0 9 (nI (n + 1))).1 0 k = M.1 0 k := fun k hk => by rw [px_ui, if_pos rfl, if_neg hk, px_ui0 _ _ _ _ _ (by omega)]
        have mt : ∀ t, t ≠ 0 → t ≠ 3 → (gm_ui (gm_ui M 3 n (nI v)) 0 9 (nI (n + 1))).1 t = M.1 t := fun t h h3 => by rw [px_ui0 _ _ _ _ _ h, px_ui0 _ _ _ _ _ h3]
        refine ⟨_, _, _, rfl, rfl, d, nr, nn, np, kd, g, r0, r1, px_CT_k r2 (cf _ (by omega) (by omega)) (cf _ (by omega) (by omega)) (cf _ (by omega) (by omega)) (cf _ (by omega) (by omega)), px_MT_k r3 (fun k hk => mk k (by omega)) (mt 1 (by omega) (by omega)) (mt 2 (by omega) (by omega)), px_TB_k r4 (cf 12 (by omega) (by omega)) (cf 18 (by omega) (by omega)) (fun t _ _ => rfl) r0.2.1, ⟨n + 1, va_up tx n v, by omega, f1, f2, fun i hi => ?_⟩, px_Fl_k r6 (by rw [cf 0 (by omega) (by omega)]) (mk 10 (by omega)), px_Sd_k r7 rfl (mk 7 (by omega)), px_Un_k r8 (fun t _ _ => cf t (by omega) (by omega)) (mk 27 (by omega)) (mt 10 (by omega) (by omega)), px_Im_k r9 (fun t _ _ => cf t (by omega) (by omega)) (fun _ _ _ => rfl) (mt 15 (by omega) (by omega)) (mt 16 (by omega) (by omega)), px_Gu_k r10 (cf 88 (by omega) (by omega)) (cf 89 (by omega) (by omega)) (mk 29 (by omega)) (mt 11 (by omega) (by omega)) (mt 12 (by omega) (by omega)), px_Bo_k r11 (cf 92 (by omega) (by omega)) (cf 93 (by omega) (by omega)) (cf 94 (by omega) (by omega)) (mk 32 (by omega)) (mt 13 (by omega) (by omega)) (mt 14 (by omega) (by omega))⟩
        rw [show (gm_ui (gm_ui C 3 n (nI v)) 2 1 (nI (n + 1))).1 3 = (gm_ui C 3 n (nI v)).1 3 from px_ui0 _ _ _ _ _ (by omega), show (gm_ui (gm_ui M 3 n (nI v)) 0 9 (nI (n + 1))).1 3 = (gm_ui M 3 n (nI v)).1 3 from px_ui0 _ _ _ _ _ (by omega), px_ui, if_pos rfl, px_ui, if_pos rfl]
        by_cases e : i = n
        · rw [if_pos e, if_pos e, e, px_ups]
          exact ⟨by omega, rfl, rfl⟩
        · rw [if_neg e, if_neg e, px_upn e]
          exact t4 i (by omega)
      · rw [if_neg (show ¬ nI n < (240 : Int32) from fun q => c3 ((nI_ltI (b := 240) (by omega) (by omega)).mp q)), if_pos (show nI n = (240 : Int32) from by rw [show n = 240 by omega]; rfl)]
        exact ⟨_, _, _, rfl, rfl, _, _, _, _, _, _, R⟩
    · rw [if_neg (show ¬ nI v ≤ (255 : Int32) from fun q => c2 ((nI_leI (b := 255) hv (by omega)).mp q)), decide_eq_false (by omega)]
      exact ⟨_, _, _, rfl, rfl, _, _, _, _, _, _, R⟩
theorem op_write (a0 : Int32) (so : Bool) (hf : 20000 ≤ fl) (R : px_R C M) : ∃ x C' M', Lt_write fl a0 (nI so.toNat) C = some (x, C') ∧ Mo_write a0 (nI so.toNat) M = some (x, M') ∧ px_R C' M' := by
  obtain ⟨d, nr, nn, np, kd, g, R⟩ := id R
  obtain ⟨r0, r1, r2, r3, r4, r5, r6, r7, r8, r9, r10, ⟨b, bn, bs, b1, b2, b3, b4⟩⟩ := id R
  unfold Lt_write Mo_write
  rcases px_hasNum fl a0 (by omega) r2 r3 r0 with ⟨e1, e2⟩ | ⟨n, hn, rfl, e1, e2⟩
  · rw [e1, e2]
    simp only [px_1, px_e0, if_true]
    exact ⟨_, _, _, rfl, rfl, _, _, _, _, _, _, R⟩
  · rw [e1, e2]
    simp only [px_1, px_e1, if_false]
    unfold Bk_add
    rw [b2, b3]
    by_cases c3 : b < 15
    · have hso := px_nb so
      rw [if_pos (show nI b < (15 : Int32) from (nI_ltI (b := 15) (by omega) (by omega)).mpr c3), if_neg (show ¬ nI b = (15 : Int32) from fun q => by have := (nI_eq (b := 15) (by omega) (by omega)).mp q; omega)]
      simp only [px_lt]
      have e1 : (gm_ui C 93 b (nI n)).1 92 2 = nI b := by rw [px_ui0 _ _ _ _ _ (by omega)]; exact b2
      have e2 : (gm_ui M 13 b (nI n)).1 0 32 = nI b := by rw [px_ui0 _ _ _ _ _ (by omega)]; exact b3
      rw [px_ck _ (by omega) (by decide), px_ck _ (by omega) (by decide), nI_clamp (by omega), e1, e2, px_ck _ (by omega) (by decide), px_ck _ (by omega) (by decide), nI_clamp (by omega), hso]
      have e3 : (gm_ui (gm_ui C 93 b (nI n)) 94 b (nI so.toNat)).1 92 2 = nI b := by rw [px_ui0 _ _ _ _ _ (by omega)]; exact e1
      have e4 : (gm_ui (gm_ui M 13 b (nI n)) 14 b (nI so.toNat)).1 0 32 = nI b := by rw [px_ui0 _ _ _ _ _ (by omega)]; exact e2
      simp only [px_2]
      rw [e3, e4, show nI b + 1 = nI (b + 1) from nI_1 b, if_neg (show ¬ (1 : Int32) = 0 by decide)]
      have f1 : (gm_ui (gm_ui (gm_ui C 93 b (nI n)) 94 b (nI so.toNat)) 92 2 (nI (b + 1))).1 92 2 = nI (b + 1) := by rw [px_ui, if_pos rfl, if_pos rfl]
      have f2 : (gm_ui (gm_ui (gm_ui M 13 b (nI n)) 14 b (nI so.toNat)) 0 32 (nI (b + 1))).1 0 32 = nI (b + 1) := by rw [px_ui, if_pos rfl, if_pos rfl]
      rw [f1, f2]
      have cf : ∀ t, t ≠ 92 → t ≠ 93 → t ≠ 94 → (gm_ui (gm_ui (gm_ui C 93 b (nI n)) 94 b (nI so.toNat)) 92 2 (nI (b + 1))).1 t = C.1 t := fun t h h3 h4 => by rw [px_ui0 _ _ _ _ _ h, px_ui0 _ _ _ _ _ h4, px_ui0 _ _ _ _ _ h3]
      have mk : ∀ k, k ≠ 32 → (gm_ui (gm_ui (gm_ui M 13 b (nI n)) 14 b (nI so.toNat)) 0 32 (nI (b + 1))).1 0 k = M.1 0 k := fun k hk => by rw [px_ui, if_pos rfl, if_neg hk, px_ui0 _ _ _ _ _ (by omega), px_ui0 _ _ _ _ _ (by omega)]
      have mt : ∀ t, t ≠ 0 → t ≠ 13 → t ≠ 14 → (gm_ui (gm_ui (gm_ui M 13 b (nI n)) 14 b (nI so.toNat)) 0 32 (nI (b + 1))).1 t = M.1 t := fun t h h3 h4 => by rw [px_ui0 _ _ _ _ _ h, px_ui0 _ _ _ _ _ h4, px_ui0 _ _ _ _ _ h3]
      refine ⟨_, _, _, rfl, rfl, d, nr, nn, np, kd, g, r0, r1, px_CT_k r2 (cf _ (by omega) (by omega) (by omega)) (cf _ (by omega) (by omega) (by omega)) (cf _ (by omega) (by omega) (by omega)) (cf _ (by omega) (by omega) (by omega)), px_MT_k r3 (fun k hk => mk k (by omega)) (mt 1 (by omega) (by omega) (by omega)) (mt 2 (by omega) (by omega) (by omega)), px_TB_k r4 (cf 12 (by omega) (by omega) (by omega)) (cf 18 (by omega) (by omega) (by omega)) (fun t _ _ => rfl) r0.2.1, px_Tx_k r5 (cf 2 (by omega) (by omega) (by omega)) (cf 3 (by omega) (by omega) (by omega)) (mk 9 (by omega)) (mt 3 (by omega) (by omega) (by omega)), px_Fl_k r6 (by rw [cf 0 (by omega) (by omega) (by omega)]) (mk 10 (by omega)), px_Sd_k r7 rfl (mk 7 (by omega)), px_Un_k r8 (fun t _ _ => cf t (by omega) (by omega) (by omega)) (mk 27 (by omega)) (mt 10 (by omega) (by omega) (by omega)), px_Im_k r9 (fun t _ _ => cf t (by omega) (by omega) (by omega)) (fun _ _ _ => rfl) (mt 15 (by omega) (by omega) (by omega)) (mt 16 (by omega) (by omega) (by omega)), px_Gu_k r10 (cf 88 (by omega) (by omega) (by omega)) (cf 89 (by omega) (by omega) (by omega)) (mk 29 (by omega)) (mt 11 (by omega) (by omega) (by omega)) (mt 12 (by omega) (by omega) (by omega)), ⟨b + 1, va_up bn b n, fun i => if i = b then so else bs i, by omega, f1, f2, fun i hi => ?_⟩⟩
      simp only [px_ui]
      by_cases e : i = b
      · subst e
        simp only [px_ups, if_true]
        exact ⟨hn, rfl, rfl, rfl, rfl⟩
      · rw [px_upn e]
        simp only [e, if_false, if_true]
        exact b4 i (by omega)
    · rw [if_neg (show ¬ nI b < (15 : Int32) from fun q => c3 ((nI_ltI (b := 15) (by omega) (by omega)).mp q)), if_pos (show nI b = (15 : Int32) from by rw [show b = 15 by omega]; rfl)]
      exact ⟨_, _, _, rfl, rfl, _, _, _, _, _, _, R⟩
theorem px_R_seed {v : Nat} (hv : v < 2 ^ 31) (R : px_R1 C M d nr nn np kd g) : px_R1 (gm_uj C 0 7 (lN v)) (gm_ui M 0 7 (nI v)) d nr nn np kd g := by
  obtain ⟨r0, r1, r2, r3, r4, r5, r6, r7, r8, r9, r10, r11⟩ := id R
  have mk : ∀ k, k ≠ 7 → (gm_ui M 0 7 (nI v)).1 0 k = M.1 0 k := fun k hk => by rw [px_ui, if_pos rfl, if_neg hk]
  have mt : ∀ t, t ≠ 0 → (gm_ui M 0 7 (nI v)).1 t = M.1 t := fun t h => px_ui0 _ _ _ _ _ h
  exact ⟨r0, r1, px_CT_k r2 rfl rfl rfl rfl, px_MT_k r3 (fun k hk => mk k (by omega)) (mt 1 (by omega)) (mt 2 (by omega)), px_TB_k r4 rfl rfl (fun t _ _ => px_uj0 _ _ _ _ _ (by omega)) r0.2.1, px_Tx_k r5 rfl rfl (mk 9 (by omega)) (mt 3 (by omega)), px_Fl_k r6 rfl (mk 10 (by omega)), ⟨v, hv, by rw [px_uj, if_pos rfl, if_pos rfl], by rw [px_ui, if_pos rfl, if_pos rfl]⟩, px_Un_k r8 (fun _ _ _ => rfl) (mk 27 (by omega)) (mt 10 (by omega)), px_Im_k r9 (fun _ _ _ => rfl) (fun t _ _ => px_uj0 _ _ _ _ _ (by omega)) (mt 15 (by omega)) (mt 16 (by omega)), px_Gu_k r10 rfl rfl (mk 29 (by omega)) (mt 11 (by omega)) (mt 12 (by omega)), px_Bo_k r11 rfl rfl rfl (mk 32 (by omega)) (mt 13 (by omega)) (mt 14 (by omega))⟩
def px_sd (s : Nat) : Nat := (s * 1103515245 + 12345) % 2147483648
theorem px_sd_lt (s : Nat) : px_sd s < 2 ^ 31 := Nat.mod_lt _ (by decide)
theorem px_cdraw {s k : Nat} (hs : s < 2 ^ 31) (h : C.2 0 7 = lN s) (h0 : 0 < k) (hk : k < 2 ^ 31) : Lt_drawOf (nI k) C = some (nI (px_sd s / 65536 % k), gm_uj C 0 7 (lN (px_sd s))) := by
  have h1 : s * 1103515245 + 12345 < 2 ^ 63 := by omega
  have e1 : gm_rml (lN s * 1103515245 + 12345) 2147483648 = lN (px_sd s) := by
    rw [show (1103515245 : Int64) = lN 1103515245 from rfl, show (12345 : Int64) = lN 12345 from rfl, show (2147483648 : Int64) = lN 2147483648 from rfl, lN_mul, lN_add]
    exact pk_lRem h1 (by decide) (by decide)
  have hp := px_sd_lt s
  unfold Lt_drawOf
  rw [h, e1]
  simp only [px_lt]
  have e2 : (gm_uj C 0 7 (lN (px_sd s))).2 0 7 = lN (px_sd s) := by rw [px_uj, if_pos rfl, if_pos rfl]
  rw [e2, if_neg (nI_nle h0 hk), nI_l hk, if_neg (show ¬ lN k = (0 : Int64) from fun q => by have := (pk_lEQ (b := 0) (by omega) (by omega)).mp q; omega)]
  have e3 : gm_rml (lN (px_sd s) / 65536) (lN k) = lN (px_sd s / 65536 % k) := by
    rw [show (65536 : Int64) = lN 65536 from rfl, pk_lDiv (by omega) (by decide) (by decide)]
    exact pk_lRem (by omega) h0 (by omega)
  rw [e3, lN_i]
theorem px_mdraw {s k : Nat} (hs : s < 2 ^ 31) (h : M.1 0 7 = nI s) (h0 : 0 < k) (hk : k < 2 ^ 31) : Mo_draw (nI k) M = some (nI (px_sd s / 65536 % k), gm_ui M 0 7 (nI (px_sd s))) := by
  have h1 : s * 1103515245 + 12345 < 2 ^ 63 := by omega
  have e1 : gm_rml (lN s * 1103515245 + 12345) 2147483648 = lN (px_sd s) := by
    rw [show (1103515245 : Int64) = lN 1103515245 from rfl, show (12345 : Int64) = lN 12345 from rfl, show (2147483648 : Int64) = lN 2147483648 from rfl, lN_mul, lN_add]
    exact pk_lRem h1 (by decide) (by decide)
  have hp := px_sd_lt s
  unfold Mo_draw
  rw [h, nI_l hs, e1, lN_i]
  simp only [px_lt]
  have e2 : (gm_ui M 0 7 (nI (px_sd s))).1 0 7 = nI (px_sd s) := by rw [px_ui, if_pos rfl, if_pos rfl]
  rw [e2, if_neg (show ¬ nI k = (0 : Int32) from fun q => by have := (nI_eq (b := 0) (by omega) (by omega)).mp q; omega), show (65536 : Int32) = nI 65536 from rfl, pk_div hp (by decide) (by decide), px_rm (by omega) h0 hk]
theorem ct_days {a : Nat} (h : px_CT C 8 d nr nn np kd g) (h0 : px_V0 d nr nn np kd) : px_CT (gm_ui C 8 5 (nI a)) 8 d nr nn np kd (va_up g 41 a) := by
  obtain ⟨b0, b1, b2, b3, -⟩ := h0
  obtain ⟨h1, h2, h3, h4, h5, h6, h7, h8, h9⟩ := h
  refine ⟨by rw [px_ui, if_pos rfl, if_neg (by omega)]; exact h1, by rw [px_ui, if_pos rfl, if_neg (by omega), px_upn (by omega)]; exact h2, by rw [px_ui, if_pos rfl, if_pos rfl, px_ups], by rw [px_ui, if_pos rfl, if_neg (by omega)]; exact h4, by rw [px_ui, if_pos rfl, if_neg (by omega)]; exact h5, by rw [px_ui, if_pos rfl, if_neg (by omega)]; exact h6, fun q hq => ?_, fun q hq => ?_, fun q hq => ?_⟩
  · rw [px_ui0 _ _ _ _ _ (by omega), px_cd_up (by omega) (by omega)]
    exact h7 q hq
  · rw [px_ui0 _ _ _ _ _ (by omega), px_upn (by omega), px_upn (by omega)]
    exact h8 q hq
  · rw [px_ui0 _ _ _ _ _ (by omega), px_upn (by omega), px_upn (by omega), px_upn (by omega), px_upn (by omega)]
    exact h9 q hq
theorem px_upu {j a b : Nat} : va_up (va_up g j a) j b = va_up g j b := by
  funext i
  unfold va_up
  by_cases e : i = j
  · rw [if_pos e, if_pos e]
  · rw [if_neg e, if_neg e, if_neg e]
theorem px_day2 {v4 v6 v8 : Nat} (hf : 20000 ≤ fl) (R : px_R1 C M d nr nn np kd g) (h41 : g 41 < 9060) (hd : 0 < d) (hv4 : v4 < 4) (hv6 : v6 < nn) (hv8 : v8 < np) : ∃ C' M1 g', (if nI v4 = 3 then (gm_bp1 (Tr_numbers fl 8 (gm_ui C 8 5 (nI (g 41 + 1)))) fun v15 => gm_bp2 (Lt_drawOf v15 (gm_ui C 8 5 (nI (g 41 + 1)))) fun v16 S17 => gm_bp1 (Tr_putRoll 8 (nI v6) v16 50 S17) fun S18 => some S18) else (gm_bp1 (Tr_ticketsLeft 8 (nI v6) (gm_ui C 8 5 (nI (g 41 + 1)))) fun v11 => if v11 ≤ 0 then some (gm_ui C 8 5 (nI (g 41 + 1))) else gm_bp2 (Lt_sellOne fl (nI v6) (nI v8) (gm_ui C 8 5 (nI (g 41 + 1)))) fun _ S14 => some S14)) = some C' ∧ (if nI v4 = 3 then (gm_bp2 (Mo_draw ((M.1 0 1) + 1) M) fun v12 S13 => gm_ck (13 + nI v6) 42 <| gm_lt (α := gm_M) (gm_ui S13 2 ((13 + nI v6).toNatClampNeg) v12) fun S15 => gm_ck (17 + nI v6) 42 <| gm_lt (α := gm_M) (gm_ui S15 2 ((17 + nI v6).toNatClampNeg) 50) fun S17 => some S17) else (gm_ck (17 + nI v6) 42 <| if M.1 2 (17 + nI v6).toNatClampNeg ≤ 0 then some M else gm_bp2 (Mo_sellNow fl (nI v6) (nI v8) M) fun _ S11 => some S11)) = some M1 ∧ M1.1 2 41 = nI (g 41) ∧ px_R1 C' (gm_ui M1 2 41 (nI (g 41 + 1))) d nr nn np kd g' ∧ g' 41 = g 41 + 1 := by
  obtain ⟨r0, r1, r2, r3, r4, r5, r6, ⟨sd, s1, s2, s3⟩, r8, r9, r10, r11⟩ := id R
  have hnn := r0.2.2.1
  have hnp := r0.2.2.2.1
  have hnr := r0.2.1
  have hd4 := px_V0_d r0
  have hnum := px_num_le hd4
  have hnum0 := px_num_pos hd
  have v1 := px_V1_d (v := g 41 + 1) r1 (by omega) hnr hnn
  have c1 := ct_days (a := g 41 + 1) r2 r0
  have e13 : (13 : Int32) + nI v6 = nI (13 + v6) := nI_add 13 v6
  have e17 : (17 : Int32) + nI v6 = nI (17 + v6) := nI_add 17 v6
  rw [e13, e17, nI_clamp (by omega), nI_clamp (by omega)]
  by_cases c3 : v4 = 3
  · rw [if_pos (by rw [c3]; rfl), if_pos (by rw [c3]; rfl)]
    have R4 := px_R_seed (px_sd_lt sd) R
    have w1 := px_cdraw (k := px_num d) (C := gm_ui C 8 5 (nI (g 41 + 1))) s1 s2 hnum0 (by omega)
    have w1 : Lt_drawOf (nI (px_num d)) (gm_ui C 8 5 (nI (g 41 + 1))) = some (nI (px_sd sd / 65536 % px_num d), gm_ui (gm_uj C 0 7 (lN (px_sd sd))) 8 5 (nI (g 41 + 1))) := w1
    have y1 := px_mdraw (k := px_num d) (M := M) s1 s3 hnum0 (by omega)
    have hx : px_sd sd / 65536 % px_num d < px_num d := Nat.mod_lt _ hnum0
    have nb : Tr_numbers fl 8 (gm_ui C 8 5 (nI (g 41 + 1))) = some (nI (px_num d)) := px_numbers fl 8 d _ (by omega) hd4 c1.1
    have c4 := ct_left (r := v6) (a := 50) r0 (ct_at (a := px_sd sd / 65536 % px_num d) r0 (px_CT_k (C' := gm_ui (gm_uj C 0 7 (lN (px_sd sd))) 8 5 (nI (g 41 + 1))) c1 rfl rfl rfl rfl) hv6) hv6
    have t4 := mt_up (j := 17 + v6) (a := 50) (mt_up (j := 13 + v6) (a := px_sd sd / 65536 % px_num d) R4.2.2.2.1 (by omega)) (by omega)
    have t5 := mt_up (j := 41) (a := g 41 + 1) t4 (by omega)
    have v5 := px_V1_left (r := v6) (a := 50) (px_V1_at (r := v6) v1 (by omega) hx hnr hnn) (by omega) (by omega) hnr hnn
    rw [px_upc (show 17 + v6 ≠ 41 by omega), px_upc (show 13 + v6 ≠ 41 by omega)] at t5
    have pr : Tr_putRoll 8 (nI v6) (nI (px_sd sd / 65536 % px_num d)) 50 (gm_ui (gm_uj C 0 7 (lN (px_sd sd))) 8 5 (nI (g 41 + 1))) = some (gm_ui (gm_ui (gm_ui (gm_uj C 0 7 (lN (px_sd sd))) 8 5 (nI (g 41 + 1))) 10 (v6 * 2) (nI (px_sd sd / 65536 % px_num d))) 10 (v6 * 2 + 1) (nI 50)) := by
      unfold Tr_putRoll
      simp (disch := omega) only [px_lit, px_litL, px_lt, px_1, px_2, px_3, px_ck, px_rm, px_le, px_ltI, px_eq, px_ne1, nI_add, pk_mul, pk_sub, pk_div, nI_clamp, px_ui, px_ui2, px_uj1, px_uj, px_uf, px_uf2, if_pos, if_neg, if_true, if_false, ↓reduceIte]
    rw [nb, r3.2.1, show nI (px_num d - 1) + 1 = nI (px_num d) by rw [show nI (px_num d - 1) + 1 = nI (px_num d - 1 + 1) from nI_1 _, Nat.sub_add_cancel hnum0], y1]
    simp only [px_1, px_2, px_lt]
    rw [w1]
    simp only [px_2]
    rw [pr, px_ck _ (by omega) (by decide), px_ck _ (by omega) (by decide)]
    refine ⟨_, _, _, rfl, rfl, ?_, px_R_row R4 v5 c4 t5 (fun j hj => by rw [px_upn (by omega), px_upn (by omega), px_upn (by omega)]) (fun t h8 h10 _ => by rw [px_ui0 _ _ _ _ _ h10, px_ui0 _ _ _ _ _ h10, px_ui0 _ _ _ _ _ h8]) rfl (fun t h => by rw [px_ui0 _ _ _ _ _ h, px_ui0 _ _ _ _ _ h, px_ui0 _ _ _ _ _ h]), by rw [px_upn (by omega), px_upn (by omega), px_ups]⟩
    have := px_mrow t4 (show 41 < 42 by omega)
    rw [px_upn (by omega), px_upn (by omega)] at this
    exact this
  · have c3' : ¬ nI v4 = (3 : Int32) := fun q => c3 ((nI_eq (b := 3) (by omega) (by omega)).mp q)
    rw [if_neg c3', if_neg c3', (px_left c1 r0 hv6).1, px_upn (by omega), px_ck _ (by omega) (by decide), px_mrow r3 (by omega)]
    simp only [px_1]
    have b200 := (r1.2.2.1 v6 hv6).2
    by_cases c0 : g (17 + v6) = 0
    · have c0' : nI (g (17 + v6)) ≤ (0 : Int32) := by rw [c0]; decide
      rw [if_pos c0', if_pos c0']
      exact ⟨_, _, _, rfl, rfl, px_mrow r3 (by omega), px_R_row R v1 c1 (mt_up (j := 41) (a := g 41 + 1) r3 (by omega)) (fun j hj => px_upn (by omega)) (fun t h _ _ => px_ui0 _ _ _ _ _ h) rfl (fun t h => px_ui0 _ _ _ _ _ h), px_ups⟩
    · have c0' : ¬ nI (g (17 + v6)) ≤ (0 : Int32) := nI_nle (by omega) (by omega)
      rw [if_neg c0', if_neg c0']
      obtain ⟨C', M', g', a1, a2, a3, a4, a5, a6, a7, a8, a9, a10, a11⟩ := px_sell1 (fl := fl) (z := g 41) (r := v6) (p := v8) (g := va_up g 41 (g 41 + 1)) (C := gm_ui C 8 5 (nI (g 41 + 1))) r1.2.2.2.2.1 hf r0 v1 c1 (by rw [px_upu, px_up41]; exact r3) (px_TB_g (g := g) (fun j hj => px_upn (by omega)) hnr (px_TB_k r4 (px_ui0 _ _ _ _ _ (by omega)) (px_ui0 _ _ _ _ _ (by omega)) (fun _ _ _ => rfl) hnr)) hv6 hv8 (by rw [px_upn (by omega)]; omega)
      rw [px_ups] at a7
      have t5 := mt_up (j := 41) (a := g 41 + 1) a4 (by omega)
      rw [px_upu, ← a7, px_up41] at t5
      rw [a1, a2]
      simp only [px_2]
      refine ⟨_, _, g', rfl, rfl, ?_, ?_, a7⟩
      · have := px_mrow a4 (show 41 < 42 by omega)
        rw [px_ups] at this
        exact this
      · rw [← a7]
        exact px_R_row R a5 a3 t5 (fun j hj => by rw [a6 j hj, px_upn (by omega)]) (fun t h8 h10 h11 => by rw [a9 t h10 h11, px_ui0 _ _ _ _ _ h8]) (by rw [a10]; rfl) (fun t h => by rw [px_ui0 _ _ _ _ _ h, a11 t h])
theorem px_uij (S : gm_M) (t k t' k' : Nat) (v : Int32) (w : Int64) : gm_uj (gm_ui S t k v) t' k' w = gm_ui (gm_uj S t' k' w) t k v := rfl
theorem px_day (hf : 20000 ≤ fl) (R : px_R1 C M d nr nn np kd g) (h41 : g 41 < 9060) (hd : 0 < d) : ∃ C' M1 g', Lt_liveOneDay fl C = some C' ∧ (((nn = 0 ∨ np = 0) ∧ M1 = M) ∨ (0 < nn ∧ 0 < np ∧ Mo_chance fl M = some M1)) ∧ M1.1 2 41 = nI (g 41) ∧ px_R1 C' (gm_ui M1 2 41 (nI (g 41 + 1))) d nr nn np kd g' ∧ g' 41 = g 41 + 1 := by
  obtain ⟨r0, r1, r2, r3, r4, r5, r6, ⟨sd, s1, s2, s3⟩, r8, r9, r10, r11⟩ := id R
  have hnn := r0.2.2.1
  have hnp := r0.2.2.2.1
  have hnr := r0.2.1
  have hd4 := px_V0_d r0
  have hnum := px_num_le hd4
  have hnum0 := px_num_pos hd
  have v1 := px_V1_d (v := g 41 + 1) r1 (by omega) hnr hnn
  have c1 := ct_days (a := g 41 + 1) r2 r0
  have t1 := mt_up (j := 41) (a := g 41 + 1) r3 (by omega)
  have hday : C.1 8 5 + 1 = nI (g 41 + 1) := by rw [r2.2.2.1]; exact nI_1 _
  have e7 : ∀ (S : gm_M) (v : Int32), (gm_ui S 8 5 v).1 8 7 = S.1 8 7 := fun S v => by rw [px_ui, if_pos rfl, if_neg (by omega)]
  have e8 : ∀ (S : gm_M) (v : Int32), (gm_ui S 8 5 v).1 8 8 = S.1 8 8 := fun S v => by rw [px_ui, if_pos rfl, if_neg (by omega)]
  unfold Lt_liveOneDay
  rw [hday]
  simp only [px_lt]
  rw [e7, e8, r2.2.2.2.2.1, r2.2.2.2.2.2.1]
  have done0 : px_R1 (gm_ui C 8 5 (nI (g 41 + 1))) (gm_ui M 2 41 (nI (g 41 + 1))) d nr nn np kd (va_up g 41 (g 41 + 1)) := px_R_row R v1 c1 t1 (fun j hj => px_upn (by omega)) (fun t h _ _ => px_ui0 _ _ _ _ _ h) rfl (fun t h => px_ui0 _ _ _ _ _ h)
  by_cases n0 : nn = 0
  · rw [if_pos (by rw [n0]; rfl)]
    exact ⟨_, M, _, rfl, Or.inl ⟨Or.inl n0, rfl⟩, px_mrow r3 (by omega), done0, px_ups⟩
  · rw [if_neg (show ¬ nI nn = (0 : Int32) from fun q => n0 ((nI_eq (b := 0) (by omega) (by omega)).mp q))]
    by_cases p0 : np = 0
    · rw [if_pos (by rw [p0]; rfl)]
      exact ⟨_, M, _, rfl, Or.inl ⟨Or.inr p0, rfl⟩, px_mrow r3 (by omega), done0, px_ups⟩
    · rw [if_neg (show ¬ nI np = (0 : Int32) from fun q => p0 ((nI_eq (b := 0) (by omega) (by omega)).mp q))]
      have R1 := px_R_seed (px_sd_lt sd) R
      have R2 := px_R_seed (px_sd_lt (px_sd sd)) R1
      have R3 := px_R_seed (px_sd_lt (px_sd (px_sd sd))) R2
      have w1 := px_cdraw (k := 4) (C := gm_ui C 8 5 (nI (g 41 + 1))) s1 s2 (by decide) (by decide)
      rw [px_uij] at w1
      have w2 := px_cdraw (k := nn) (C := gm_ui (gm_uj C 0 7 (lN (px_sd sd))) 8 5 (nI (g 41 + 1))) (px_sd_lt sd) (by rw [px_ui2, px_uj, if_pos rfl, if_pos rfl]) (by omega) (by omega)
      rw [px_uij] at w2
      have w3 := px_cdraw (k := np) (C := gm_ui (gm_uj (gm_uj C 0 7 (lN (px_sd sd))) 0 7 (lN (px_sd (px_sd sd)))) 8 5 (nI (g 41 + 1))) (px_sd_lt (px_sd sd)) (by rw [px_ui2, px_uj, if_pos rfl, if_pos rfl]) (by omega) (by omega)
      rw [px_uij] at w3
      have y1 := px_mdraw (k := 4) (M := M) s1 s3 (by decide) (by decide)
      have y2 := px_mdraw (k := nn) (M := gm_ui M 0 7 (nI (px_sd sd))) (px_sd_lt sd) (by rw [px_ui, if_pos rfl, if_pos rfl]) (by omega) (by omega)
      have y3 := px_mdraw (k := np) (M := gm_ui (gm_ui M 0 7 (nI (px_sd sd))) 0 7 (nI (px_sd (px_sd sd)))) (px_sd_lt (px_sd sd)) (by rw [px_ui, if_pos rfl, if_pos rfl]) (by omega) (by omega)
      unfold Mo_chance
      rw [show (4 : Int32) = nI 4 from rfl, w1]
      rw [px_2, e7, show (gm_uj C 0 7 (lN (px_sd sd))).1 8 7 = nI nn from r2.2.2.2.2.1, w2]
      rw [px_2, e8, show (gm_uj (gm_uj C 0 7 (lN (px_sd sd))) 0 7 (lN (px_sd (px_sd sd)))).1 8 8 = nI np from r2.2.2.2.2.2.1, w3]
      rw [px_2, y1]
      rw [px_2, R1.2.2.2.1.2.2.2.1, y2]
      rw [px_2, R2.2.2.2.1.2.2.2.2.1, y3]
      rw [px_2]
      obtain ⟨C', M1, g', z1, z2, z3, z4, z5⟩ := px_day2 (fl := fl) hf R3 h41 hd (v4 := px_sd sd / 65536 % 4) (Nat.mod_lt _ (by omega)) (v6 := px_sd (px_sd sd) / 65536 % nn) (Nat.mod_lt _ (by omega)) (v8 := px_sd (px_sd (px_sd sd)) / 65536 % np) (Nat.mod_lt _ (by omega))
      exact ⟨C', M1, g', z1, Or.inr ⟨by omega, by omega, z2⟩, z3, z4, z5⟩
theorem px_drift_L {n : Nat} (hf : 20000 ≤ fl) (hn : n ≤ 60) (hd : 0 < d) : ∀ (m i : Nat) (C M : gm_M) (g : Nat → Nat), px_R1 C M d nr nn np kd g → i ≤ n → g 41 + (n - i) ≤ 9060 → n - i < m → ∃ C' M' g', Lt_drift_L56 fl (nI n) m (nI i) C = some C' ∧ Mo_drift_L48 fl (nI n) m (nI i) M = some M' ∧ px_R1 C' M' d nr nn np kd g' := by
  intro m
  induction m with
  | zero => intro i C M g _ _ _ h; omega
  | succ m ih =>
    intro i C M g R hi hg hm
    have e1 : Lt_drift_L56 fl (nI n) (m + 1) (nI i) C = Lt_drift_L56_b fl (nI n) (Lt_drift_L56 fl (nI n) m) (nI i) C := rfl
    have e2 : Mo_drift_L48 fl (nI n) (m + 1) (nI i) M = Mo_drift_L48_b fl (nI n) (Mo_drift_L48 fl (nI n) m) (nI i) M := rfl
    rw [e1, e2]
    unfold Lt_drift_L56_b Mo_drift_L48_b
    by_cases cc : n ≤ i
    · rw [if_pos ((nI_leI (by omega) (by omega)).mpr cc), if_pos ((nI_leI (by omega) (by omega)).mpr cc)]
      exact ⟨_, _, _, rfl, rfl, R⟩
    · have cc' : ¬ nI n ≤ nI i := fun q => cc ((nI_leI (by omega) (by omega)).mp q)
      obtain ⟨C', M1, g', a1, a2, a3, a4, a5⟩ := px_day (fl := fl) hf R (by omega) hd
      have hnn := R.1.2.2.1
      have hnp := R.1.2.2.2.1
      have hx : (if M.1 0 3 ≤ 0 then some M else if M.1 0 4 ≤ 0 then some M else gm_bp1 (Mo_chance fl M) fun S18 => some S18) = some M1 := by
        rw [R.2.2.2.1.2.2.2.1, R.2.2.2.1.2.2.2.2.1]
        rcases a2 with ⟨q | q, rfl⟩ | ⟨q1, q2, q3⟩
        · rw [if_pos (by rw [q]; decide)]
        · rw [q]
          split <;> rfl
        · rw [if_neg (nI_nle q1 (by omega)), if_neg (nI_nle q2 (by omega)), q3]; rfl
      rw [if_neg cc', if_neg cc', a1, hx]
      simp only [px_1, px_lt]
      rw [show (41 : Int32) = nI 41 from rfl, px_ck _ (by decide) (by decide), px_ck _ (by decide) (by decide), nI_clamp (by decide), a3, show nI (g 41) + 1 = nI (g 41 + 1) from nI_1 _, show nI i + 1 = nI (i + 1) from nI_1 i]
      exact ih (i + 1) C' _ g' a4 (by omega) (by omega) (by omega)
theorem op_drift (a0 : Int32) (hf : 20000 ≤ fl) (R : px_R C M) : ∃ x C' M', Lt_drift fl a0 C = some (x, C') ∧ Mo_drift fl a0 M = some (x, M') ∧ px_R C' M' := by
  obtain ⟨d, nr, nn, np, kd, g, R⟩ := id R
  obtain ⟨r0, r1, r2, r3, r4, r5, r6, r7, r8, r9, r10, r11⟩ := id R
  have hd4 := px_V0_d r0
  have h41 := r1.2.2.2.2.1
  unfold Lt_drift Mo_drift
  have i1 := px_in (Y := 1) (Z := 60) a0 1 60 rfl rfl
  rw [i1, show (1 : Int32).toInt = 1 from rfl, show (60 : Int32).toInt = 60 from rfl]
  simp only [px_1]
  by_cases b1 : a0 < 1
  · have b2 := Int32.lt_iff_toInt_lt.mp b1
    rw [show (1 : Int32).toInt = 1 from rfl] at b2
    rw [if_pos b1, decide_eq_false (by omega)]
    exact ⟨_, _, _, rfl, rfl, _, _, _, _, _, _, R⟩
  · rw [if_neg b1]
    have b2 := Int32.le_iff_toInt_le.mp (Int32.not_lt.mp b1)
    rw [show (1 : Int32).toInt = 1 from rfl] at b2
    by_cases b3 : a0 ≤ 60
    · have b4 := Int32.le_iff_toInt_le.mp b3
      rw [show (60 : Int32).toInt = 60 from rfl] at b4
      obtain ⟨n, hn, rfl⟩ := nI_of (x := a0) (fun q => by have := px_toI q; omega)
      rw [nI_toInt hn] at b2 b4
      rw [if_pos b3, nI_toInt hn, decide_eq_true (by omega)]
      simp only [Bool.toNat_true, px_e1, if_false]
      rw [r2.1, r3.1, r2.2.2.1]
      by_cases d0 : d = 0
      · rw [if_pos (by rw [d0]; rfl), if_pos (by rw [d0]; rfl)]
        exact ⟨_, _, _, rfl, rfl, _, _, _, _, _, _, R⟩
      · have d0' : ¬ nI d = (0 : Int32) := fun q => d0 ((nI_eq (b := 0) (by omega) (by omega)).mp q)
        rw [if_neg d0', if_neg d0', show (41 : Int32) = nI 41 from rfl, px_ck _ (by decide) (by decide), nI_clamp (by decide), px_mrow r3 (by omega)]
        by_cases c1 : g 41 ≤ 9000
        · have c1' : nI (g 41) ≤ (9000 : Int32) := (nI_leI (b := 9000) (by omega) (by omega)).mpr c1
          rw [if_pos c1', if_pos c1']
          obtain ⟨C1, M1, q1, q2, R1⟩ := px_R_rem (fl := fl) hf R
          obtain ⟨C2, M2, g2, s1, s2, R2⟩ := px_drift_L (fl := fl) (n := n) hf (by omega) (by omega) fl 0 C1 M1 g R1 (by omega) (by omega) (by omega)
          have s1 : Lt_drift_L56 fl (nI n) fl 0 C1 = some C2 := s1
          have s2 : Mo_drift_L48 fl (nI n) fl 0 M1 = some M2 := s2
          rw [q1, q2]
          simp only [px_1]
          rw [s1, s2]
          simp only [px_1]
          rw [R2.2.2.1.2.2.1, px_ck _ (by decide) (by decide), px_mrow R2.2.2.2.1 (by omega)]
          exact ⟨_, _, _, rfl, rfl, _, _, _, _, _, _, R2⟩
        · have c1' : ¬ nI (g 41) ≤ (9000 : Int32) := fun q => c1 ((nI_leI (b := 9000) (by omega) (by omega)).mp q)
          rw [if_neg c1', if_neg c1']
          exact ⟨_, _, _, rfl, rfl, _, _, _, _, _, _, R⟩
    · have b4 : ¬ a0.toInt ≤ 60 := fun q => b3 (Int32.le_iff_toInt_le.mpr q)
      rw [if_neg b3, decide_eq_false (by omega)]
      exact ⟨_, _, _, rfl, rfl, _, _, _, _, _, _, R⟩
end PO6
