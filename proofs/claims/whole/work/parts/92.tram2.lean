section PT
variable {C M C' M' : gm_M} {n : Nat} {tx : Nat → Nat} {fl d nr nn np : Nat} {kd g : Nat → Nat} {mt : Bool}
def px_DONE (v : Int32) (C M : gm_M) (n : Nat) (tx : Nat → Nat) : Prop := (v = nI 0 ∧ C.1 1 4 = nI 0 ∧ M.1 0 10 = -1 ∧ ∃ (d nr nn np : Nat) (kd g : Nat → Nat) (mt : Bool), px_OD C M d nr nn np kd g mt) ∨ px_FL v C M n tx
theorem px_text_L (hf : 1000 ≤ fl) : ∀ (m y p : Nat) (C M : gm_M), px_CP C n tx (px_sk tx (n - p) p) 0 → px_TM M n tx → M.1 0 11 = nI p → M.1 0 10 = -1 → p ≤ n → y ≤ p → (∃ (d nr nn np : Nat) (kd g : Nat → Nat) (mt : Bool), px_OD C M d nr nn np kd g mt) → n - p < m → ∃ v C' M', Rd_readText_L33 fl m (nI y) C = some C' ∧ Mo_tram_L47 fl m 0 M = some (v, M') ∧ px_FC C C' ∧ px_FN M M' ∧ px_DONE v C' M' n tx := by
  intro m
  induction m with
  | zero => intro y p C M _ _ _ _ _ _ _ q; omega
  | succ m ih =>
    intro y p C M hC hM hp h10 hpn hy hO hm
    obtain ⟨d, nr, nn, np, kd, g, mt, hO⟩ := hO
    obtain ⟨h1, h2, h3, h4, h5⟩ := id hC
    have h240 := h1.1
    have hb := px_sk_b tx (n - p) p
    have hi := px_sk_i tx (n - p) p n (by omega)
    obtain ⟨M1, b1, b2, b3, b4⟩ := px_here hf h1.1 (fun i hi => (h1.2.2 i hi).1) hM hp hpn
    generalize px_sk tx (n - p) p = s at *
    have e1 : Rd_readText_L33 fl (m + 1) (nI y) C = Rd_readText_L33_b fl (Rd_readText_L33 fl m) (nI y) C := rfl
    have e2 : Mo_tram_L47 fl (m + 1) 0 M = Mo_tram_L47_b fl (Mo_tram_L47 fl m) 0 M := rfl
    rw [e1, e2]
    unfold Rd_readText_L33_b Mo_tram_L47_b
    rw [if_pos (show (0 : Int32) = 0 from rfl), b1, px_2, h1.2.1, h2]
    by_cases c : s < n
    · have h256 := (h1.2.2 s c).1
      rw [if_pos c, if_neg (show ¬ (240 : Int32) ≤ nI y from fun q => by have := (nI_leI (a := 240) (by omega) (by omega)).mp q; omega), if_neg (fun q => by have := (nI_leI (by omega) (by omega)).mp q; omega), h4, if_pos (show nI 0 = (0 : Int32) from rfl), if_neg (nI_pos (by omega))]
      have hO1 := px_OD_k hO (px_F1_r C) rfl b2
      obtain ⟨v, C1, M2, x1, x2, x3, x4, x5⟩ := px_clause hf (⟨hC, px_TM_F hM b2, b3, by rw [b4 10 (by omega)]; exact h10, d, nr, nn, np, kd, g, mt, hO1⟩ : px_ST C M1 n tx s) c hi
      have fm : px_FN M M2 := px_FN_t (px_FN_m b2) x4
      rw [x1, x2, px_1, px_2]
      simp only [px_lt]
      rw [show nI y + 1 = nI (y + 1) from nI_1 y]
      rcases x5 with ⟨rfl, q, hq, hC1, hM2, hp2, h102, d', nr', nn', np', kd', g', mt', hO2⟩ | ⟨f, w, q, f0, f4, rfl, hCP, c5, m10⟩
      · obtain ⟨C2, k1, k2, k3, k4⟩ := px_csk hf hC1.1 hC1.2.1 hC1.2.2.1
        rw [k1, px_1]
        have hqn := hC1.2.2.1
        have hbq := px_sk_b tx (n - q) q
        obtain ⟨v', C3, M3, i1, i2, i3, i4, i5⟩ := ih (y + 1) q C2 M2 ⟨px_TX_F hC1.1 k2, k3, by omega, by rw [k4 4 (by omega)]; exact hC1.2.2.2.1, by omega⟩ hM2 hp2 h102 hqn (by omega) ⟨d', nr', nn', np', kd', g', mt', px_OD_k hO2 k2 (k4 6 (by omega)) (px_FM_r M2)⟩ (by omega)
        have i2 : Mo_tram_L47 fl m (nI 0) M2 = some (v', M3) := i2
        rw [i1, i2]
        exact ⟨_, _, _, rfl, rfl, px_FC_t (px_FC_t x3 (px_FC_1 k2)) i3, px_FN_t fm i4, i5⟩
      · obtain ⟨C2, k1, k2, k3, k4⟩ := px_csk hf hCP.1 hCP.2.1 hCP.2.2.1
        have hqn := hCP.2.2.1
        have hbq := px_sk_b tx (n - q) q
        rw [k1, px_1]
        obtain ⟨m', rfl⟩ : ∃ z, m = z + 1 := ⟨m - 1, by omega⟩
        have e3 : Rd_readText_L33 fl (m' + 1) (nI (y + 1)) C2 = some C2 := by
          show Rd_readText_L33_b fl (Rd_readText_L33 fl m') (nI (y + 1)) C2 = some C2
          unfold Rd_readText_L33_b
          rw [k4 4 (by omega), hCP.2.2.2.1, if_neg (px_nf f0 f4)]
          split
          · rfl
          · split
            · rfl
            · rfl
        have e4 : Mo_tram_L47 fl (m' + 1) (nI f) M2 = some (nI f, M2) := by
          show Mo_tram_L47_b fl (Mo_tram_L47 fl m') (nI f) M2 = _
          unfold Mo_tram_L47_b
          rw [if_neg (px_nf f0 f4)]
        rw [e3, e4]
        exact ⟨_, _, _, rfl, rfl, px_FC_t x3 (px_FC_1 k2), fm, Or.inr ⟨f, w, px_sk tx (n - q) q, f0, f4, rfl, ⟨px_TX_F hCP.1 k2, k3, by omega, by rw [k4 4 (by omega)]; exact hCP.2.2.2.1, f4⟩, by rw [k4 5 (by omega)]; exact c5, m10⟩⟩
    · have es : s = n := by omega
      rw [if_neg c, if_pos (show (-1 : Int32) < 0 by decide), if_pos ((nI_leI (by omega) (by omega)).mpr (by omega) : nI n ≤ nI s), ite_self]
      exact ⟨_, _, _, rfl, rfl, px_FC_r C, px_FN_m b2, Or.inl ⟨rfl, h4, by rw [b4 10 (by omega)]; exact h10, d, nr, nn, np, kd, g, mt, px_OD_k hO (px_F1_r C) rfl b2⟩⟩
theorem px_tr1_L (M0 : gm_M) : ∀ (m j : Nat) (M : gm_M), j ≤ 42 → 42 - j < m → (∀ i, i < j → M.1 2 i = nI 0) → (∀ t, t ≠ 2 → M.1 t = M0.1 t) → ∃ M', Mo_takeRead_L42 m (nI j) M = some M' ∧ (∀ i, i < 42 → M'.1 2 i = nI 0) ∧ (∀ t, t ≠ 2 → M'.1 t = M0.1 t) := by
  intro m
  induction m with
  | zero => intro j M _ h; omega
  | succ m ih =>
    intro j M hj hm h1 h2
    have e1 : Mo_takeRead_L42 (m + 1) (nI j) M = Mo_takeRead_L42_b (Mo_takeRead_L42 m) (nI j) M := rfl
    rw [e1]
    unfold Mo_takeRead_L42_b
    by_cases c : 42 ≤ j
    · rw [if_pos (show (42 : Int32) ≤ nI j from (nI_leI (a := 42) (by omega) (by omega)).mpr c)]
      exact ⟨M, rfl, fun i hi => h1 i (by omega), h2⟩
    · rw [if_neg (show ¬ (42 : Int32) ≤ nI j from fun q => c ((nI_leI (a := 42) (by omega) (by omega)).mp q)), px_ck _ (by omega) (by decide), nI_clamp (by omega)]
      simp only [px_lt]
      rw [show nI j + 1 = nI (j + 1) from nI_1 j]
      exact ih (j + 1) (gm_ui M 2 j 0) (by omega) (by omega) (fun i hi => by
        rw [px_ui, if_pos rfl]
        by_cases e : i = j
        · rw [if_pos e]; rfl
        · rw [if_neg e]; exact h1 i (by omega)) (fun t ht => by rw [px_ui0 _ _ _ _ _ ht]; exact h2 t ht)
theorem px_tr2_L (hnr : nr ≤ 4) (M0 : gm_M) (h2 : M0.1 0 2 = nI nr) (hk : ∀ r, r < nr → M0.1 4 r = nI (g (1 + r)) ∧ M0.1 5 r = nI (g (5 + r)) ∧ M0.1 6 r = nI (g (9 + r))) : ∀ (m r : Nat) (M : gm_M), r ≤ nr → nr - r < m → (∀ j, j < 42 → ((j = 0 ∨ (1 ≤ j ∧ j < 1 + r) ∨ (5 ≤ j ∧ j < 5 + r) ∨ (9 ≤ j ∧ j < 9 + r)) → M.1 2 j = nI (g j)) ∧ (¬ (j = 0 ∨ (1 ≤ j ∧ j < 1 + r) ∨ (5 ≤ j ∧ j < 5 + r) ∨ (9 ≤ j ∧ j < 9 + r)) → M.1 2 j = nI 0)) → (∀ t, t ≠ 2 → M.1 t = M0.1 t) → ∃ M', Mo_takeRead_L73 m (nI r) M = some M' ∧ (∀ j, j < 42 → ((j = 0 ∨ (1 ≤ j ∧ j < 1 + nr) ∨ (5 ≤ j ∧ j < 5 + nr) ∨ (9 ≤ j ∧ j < 9 + nr)) → M'.1 2 j = nI (g j)) ∧ (¬ (j = 0 ∨ (1 ≤ j ∧ j < 1 + nr) ∨ (5 ≤ j ∧ j < 5 + nr) ∨ (9 ≤ j ∧ j < 9 + nr)) → M'.1 2 j = nI 0)) ∧ (∀ t, t ≠ 2 → M'.1 t = M0.1 t) := by
  intro m
  induction m with
  | zero => intro r M _ h; omega
  | succ m ih =>
    intro r M hr hm h1 h3
    have e1 : Mo_takeRead_L73 (m + 1) (nI r) M = Mo_takeRead_L73_b (Mo_takeRead_L73 m) (nI r) M := rfl
    rw [e1]
    unfold Mo_takeRead_L73_b
    have hc : M.1 0 2 = nI nr := by rw [h3 0 (by omega)]; exact h2
    rw [hc]
    by_cases c : nr ≤ r
    · have : r = nr := by omega
      subst this
      rw [if_pos ((nI_leI (by omega) (by omega)).mpr c)]
      exact ⟨M, rfl, h1, h3⟩
    · obtain ⟨k1, k2, k3⟩ := hk r (by omega)
      rw [if_neg (fun q => c ((nI_leI (by omega) (by omega)).mp q))]
      simp only [px_lt]
      rw [show (1 : Int32) + nI r = nI (1 + r) from nI_add 1 r, show (5 : Int32) + nI r = nI (5 + r) from nI_add 5 r, show (9 : Int32) + nI r = nI (9 + r) from nI_add 9 r, show nI r + 1 = nI (r + 1) from nI_1 r]
      rw [px_ck _ (by omega) (by decide), px_ck _ (by omega) (by decide), px_ck _ (by omega) (by decide), px_ck _ (by omega) (by decide), px_ck _ (by omega) (by decide), px_ck _ (by omega) (by decide), nI_clamp (by omega), nI_clamp (by omega), nI_clamp (by omega), nI_clamp (by omega), h3 4 (by omega), k1]
      have a5 : (gm_ui M 2 (1 + r) (nI (g (1 + r)))).1 5 r = nI (g (5 + r)) := by rw [px_ui0 _ _ _ _ _ (by omega), h3 5 (by omega)]; exact k2
      rw [a5]
      have a6 : (gm_ui (gm_ui M 2 (1 + r) (nI (g (1 + r)))) 2 (5 + r) (nI (g (5 + r)))).1 6 r = nI (g (9 + r)) := by rw [px_ui0 _ _ _ _ _ (by omega), px_ui0 _ _ _ _ _ (by omega), h3 6 (by omega)]; exact k3
      rw [a6]
      refine ih (r + 1) _ (by omega) (by omega) (fun j hj => ?_) (fun t ht => by rw [px_ui0 _ _ _ _ _ ht, px_ui0 _ _ _ _ _ ht, px_ui0 _ _ _ _ _ ht]; exact h3 t ht)
      rw [px_ui, if_pos rfl, px_ui, if_pos rfl, px_ui, if_pos rfl]
      obtain ⟨o1, o2⟩ := h1 j hj
      by_cases c9 : j = 9 + r
      · rw [if_pos c9, c9]
        exact ⟨fun _ => rfl, fun q => absurd (by omega) q⟩
      · rw [if_neg c9]
        by_cases c5 : j = 5 + r
        · rw [if_pos c5, c5]
          exact ⟨fun _ => rfl, fun q => absurd (by omega) q⟩
        · rw [if_neg c5]
          by_cases c1 : j = 1 + r
          · rw [if_pos c1, c1]
            exact ⟨fun _ => rfl, fun q => absurd (by omega) q⟩
          · rw [if_neg c1]
            exact ⟨fun q => o1 (by omega), fun q => o2 (by omega)⟩
theorem px_tr3_L (hnn : nn ≤ 4) (hnr : nr ≤ 4) (M0 : gm_M) (h2 : M0.1 0 3 = nI nn) (hk : ∀ r, r < nn → M0.1 7 r = nI (g (13 + r)) ∧ M0.1 8 r = nI (g (17 + r))) : ∀ (m r : Nat) (M : gm_M), r ≤ nn → nn - r < m → (∀ j, j < 42 → ((j = 0 ∨ (1 ≤ j ∧ j < 1 + nr) ∨ (5 ≤ j ∧ j < 5 + nr) ∨ (9 ≤ j ∧ j < 9 + nr) ∨ (13 ≤ j ∧ j < 13 + r) ∨ (17 ≤ j ∧ j < 17 + r)) → M.1 2 j = nI (g j)) ∧ (¬ (j = 0 ∨ (1 ≤ j ∧ j < 1 + nr) ∨ (5 ≤ j ∧ j < 5 + nr) ∨ (9 ≤ j ∧ j < 9 + nr) ∨ (13 ≤ j ∧ j < 13 + r) ∨ (17 ≤ j ∧ j < 17 + r)) → M.1 2 j = nI 0)) → (∀ t, t ≠ 2 → M.1 t = M0.1 t) → ∃ M', Mo_takeRead_L132 m (nI r) M = some M' ∧ (∀ j, j < 42 → ((j = 0 ∨ (1 ≤ j ∧ j < 1 + nr) ∨ (5 ≤ j ∧ j < 5 + nr) ∨ (9 ≤ j ∧ j < 9 + nr) ∨ (13 ≤ j ∧ j < 13 + nn) ∨ (17 ≤ j ∧ j < 17 + nn)) → M'.1 2 j = nI (g j)) ∧ (¬ (j = 0 ∨ (1 ≤ j ∧ j < 1 + nr) ∨ (5 ≤ j ∧ j < 5 + nr) ∨ (9 ≤ j ∧ j < 9 + nr) ∨ (13 ≤ j ∧ j < 13 + nn) ∨ (17 ≤ j ∧ j < 17 + nn)) → M'.1 2 j = nI 0)) ∧ (∀ t, t ≠ 2 → M'.1 t = M0.1 t) := by
  intro m
  induction m with
  | zero => intro r M _ h; omega
  | succ m ih =>
    intro r M hr hm h1 h3
    have e1 : Mo_takeRead_L132 (m + 1) (nI r) M = Mo_takeRead_L132_b (Mo_takeRead_L132 m) (nI r) M := rfl
    rw [e1]
    unfold Mo_takeRead_L132_b
    have hc : M.1 0 3 = nI nn := by rw [h3 0 (by omega)]; exact h2
    rw [hc]
    by_cases c : nn ≤ r
    · have : r = nn := by omega
      subst this
      rw [if_pos ((nI_leI (by omega) (by omega)).mpr c)]
      exact ⟨M, rfl, h1, h3⟩
    · obtain ⟨k1, k2⟩ := hk r (by omega)
      rw [if_neg (fun q => c ((nI_leI (by omega) (by omega)).mp q))]
      simp only [px_lt]
      rw [show (13 : Int32) + nI r = nI (13 + r) from nI_add 13 r, show (17 : Int32) + nI r = nI (17 + r) from nI_add 17 r, show nI r + 1 = nI (r + 1) from nI_1 r]
      rw [px_ck _ (by omega) (by decide), px_ck _ (by omega) (by decide), px_ck _ (by omega) (by decide), px_ck _ (by omega) (by decide), nI_clamp (by omega), nI_clamp (by omega), nI_clamp (by omega), h3 7 (by omega), k1]
      have a8 : (gm_ui M 2 (13 + r) (nI (g (13 + r)))).1 8 r = nI (g (17 + r)) := by rw [px_ui0 _ _ _ _ _ (by omega), h3 8 (by omega)]; exact k2
      rw [a8]
      refine ih (r + 1) _ (by omega) (by omega) (fun j hj => ?_) (fun t ht => by rw [px_ui0 _ _ _ _ _ ht, px_ui0 _ _ _ _ _ ht]; exact h3 t ht)
      rw [px_ui, if_pos rfl, px_ui, if_pos rfl]
      obtain ⟨o1, o2⟩ := h1 j hj
      by_cases c9 : j = 17 + r
      · rw [if_pos c9, c9]
        exact ⟨fun _ => rfl, fun q => absurd (by omega) q⟩
      · rw [if_neg c9]
        by_cases c5 : j = 13 + r
        · rw [if_pos c5, c5]
          exact ⟨fun _ => rfl, fun q => absurd (by omega) q⟩
        · rw [if_neg c5]
          exact ⟨fun q => o1 (by omega), fun q => o2 (by omega)⟩
theorem px_tr4_L (hnp : np ≤ 5) (M0 : gm_M) (h2 : M0.1 0 4 = nI np) (hk : ∀ r, r < np → M0.1 9 r = nI (kd r)) : ∀ (m r : Nat) (M : gm_M), r ≤ np → np - r < m → (∀ j, j < r → M.1 1 j = nI (kd j)) → (∀ t, t ≠ 1 → M.1 t = M0.1 t) → ∃ M', Mo_takeRead_L178 m (nI r) M = some M' ∧ (∀ j, j < np → M'.1 1 j = nI (kd j)) ∧ (∀ t, t ≠ 1 → M'.1 t = M0.1 t) := by
  intro m
  induction m with
  | zero => intro r M _ h; omega
  | succ m ih =>
    intro r M hr hm h1 h3
    have e1 : Mo_takeRead_L178 (m + 1) (nI r) M = Mo_takeRead_L178_b (Mo_takeRead_L178 m) (nI r) M := rfl
    rw [e1]
    unfold Mo_takeRead_L178_b
    have hc : M.1 0 4 = nI np := by rw [h3 0 (by omega)]; exact h2
    rw [hc]
    by_cases c : np ≤ r
    · have : r = np := by omega
      subst this
      rw [if_pos ((nI_leI (by omega) (by omega)).mpr c)]
      exact ⟨M, rfl, h1, h3⟩
    · have k1 := hk r (by omega)
      rw [if_neg (fun q => c ((nI_leI (by omega) (by omega)).mp q))]
      simp only [px_lt]
      rw [show nI r + 1 = nI (r + 1) from nI_1 r, px_ck _ (by omega) (by decide), px_ck _ (by omega) (by decide), nI_clamp (by omega), h3 9 (by omega), k1]
      exact ih (r + 1) _ (by omega) (by omega) (fun j hj => by
        rw [px_ui, if_pos rfl]
        by_cases e : j = r
        · rw [if_pos e, e]
        · rw [if_neg e]; exact h1 j (by omega)) (fun t ht => by rw [px_ui0 _ _ _ _ _ ht]; exact h3 t ht)
theorem px_takeRead (hf : 1000 ≤ fl) (h : px_OD C M d nr nn np kd g mt) : ∃ M', Mo_takeRead fl M = some M' ∧ px_MT M' d nr nn np kd g ∧ (∀ t, t ≠ 0 → t ≠ 1 → t ≠ 2 → M'.1 t = M.1 t) ∧ (∀ k, 5 ≤ k → M'.1 0 k = M.1 0 k) := by
  obtain ⟨z0, z1, z2, z3, ⟨z4, z5, z6, z7, z8, z9⟩, ⟨z10, z11⟩, z12, z13, z14⟩ := h
  have hnr := z0.2.1
  have hnn := z0.2.2.1
  have hnp := z0.2.2.2.1
  have s5 : ∃ S5 : gm_M, (∀ t, t ≠ 0 → S5.1 t = M.1 t) ∧ (∀ k, 5 ≤ k → S5.1 0 k = M.1 0 k) ∧ S5.1 0 0 = nI d ∧ S5.1 0 1 = nI (px_num d - 1) ∧ S5.1 0 2 = nI nr ∧ S5.1 0 3 = nI nn ∧ S5.1 0 4 = nI np ∧ Mo_takeRead fl M = (gm_bp1 (Mo_takeRead_L42 fl 0 S5) fun S8 => gm_ck (0) 42 <| gm_lt (α := gm_M) (gm_ui S8 2 ((0 : Int32).toNatClampNeg) (S8.1 0 17)) fun S14 => gm_bp1 (Mo_takeRead_L73 fl 0 S14) fun S17 => gm_bp1 (Mo_takeRead_L132 fl 0 S17) fun S31 => gm_bp1 (Mo_takeRead_L178 fl 0 S31) fun S42 => some S42) := by
    refine ⟨gm_ui (gm_ui (gm_ui (gm_ui (gm_ui M 0 0 (nI d)) 0 1 (nI (px_num d - 1))) 0 2 (nI nr)) 0 3 (nI nn)) 0 4 (nI np), fun t ht => by rw [px_ui0 _ _ _ _ _ ht, px_ui0 _ _ _ _ _ ht, px_ui0 _ _ _ _ _ ht, px_ui0 _ _ _ _ _ ht, px_ui0 _ _ _ _ _ ht], fun k hk => by rw [px_ui, if_pos rfl, if_neg (by omega), px_ui, if_pos rfl, if_neg (by omega), px_ui, if_pos rfl, if_neg (by omega), px_ui, if_pos rfl, if_neg (by omega), px_ui, if_pos rfl, if_neg (by omega)], by simp [px_ui], by simp [px_ui], by simp [px_ui], by simp [px_ui], by simp [px_ui], ?_⟩
    unfold Mo_takeRead
    simp only [px_lt]
    have e1 : (gm_ui M 0 0 (nI d)).1 0 15 = nI (px_num d - 1) := by simp [px_ui, z5]
    have e2 : (gm_ui (gm_ui M 0 0 (nI d)) 0 1 (nI (px_num d - 1))).1 0 18 = nI nr := by simp [px_ui, z7]
    have e3 : (gm_ui (gm_ui (gm_ui M 0 0 (nI d)) 0 1 (nI (px_num d - 1))) 0 2 (nI nr)).1 0 22 = nI nn := by simp [px_ui, z8]
    have e4 : (gm_ui (gm_ui (gm_ui (gm_ui M 0 0 (nI d)) 0 1 (nI (px_num d - 1))) 0 2 (nI nr)) 0 3 (nI nn)).1 0 25 = nI np := by simp [px_ui, z9]
    rw [z4, e1, e2, e3, e4]
  obtain ⟨S5, p1, p2, p3, p4, p5, p6, p7, p8⟩ := s5
  obtain ⟨S8, a1, a2, a3⟩ := px_tr1_L S5 fl 0 S5 (by omega) (by omega) (fun i hi => by omega) (fun _ _ => rfl)
  have a1 : Mo_takeRead_L42 fl 0 S5 = some S8 := a1
  have s17 : S8.1 0 17 = nI (g 0) := by rw [a3 0 (by omega), p2 17 (by omega)]; exact z6
  have q0 : ∀ t, t ≠ 2 → (gm_ui S8 2 0 (nI (g 0))).1 t = S5.1 t := fun t ht => by rw [px_ui0 _ _ _ _ _ ht, a3 t ht]
  obtain ⟨S17, b1, b2, b3⟩ := px_tr2_L (g := g) hnr S5 p5 (fun r hr => by rw [p1 4 (by omega), p1 5 (by omega), p1 6 (by omega)]; exact z12 r hr) fl 0 (gm_ui S8 2 0 (nI (g 0))) (by omega) (by omega) (fun j hj => by
    rw [px_ui, if_pos rfl]
    by_cases e : j = 0
    · rw [if_pos e, e]; exact ⟨fun _ => rfl, fun q => absurd (by omega) q⟩
    · rw [if_neg e]; exact ⟨fun q => absurd q (by omega), fun _ => a2 j hj⟩) q0
  have b1 : Mo_takeRead_L73 fl 0 (gm_ui S8 2 0 (nI (g 0))) = some S17 := b1
  obtain ⟨S31, c1, c2, c3⟩ := px_tr3_L (g := g) hnn hnr S5 p6 (fun r hr => by rw [p1 7 (by omega), p1 8 (by omega)]; exact z13 r hr) fl 0 S17 (by omega) (by omega) (fun j hj => ⟨fun q => (b2 j hj).1 (by omega), fun q => (b2 j hj).2 (by omega)⟩) b3
  have c1 : Mo_takeRead_L132 fl 0 S17 = some S31 := c1
  obtain ⟨S42, d1, d2, d3⟩ := px_tr4_L (kd := kd) hnp S31 (by rw [c3 0 (by omega)]; exact p7) (fun r hr => by rw [c3 9 (by omega), p1 9 (by omega)]; exact z14 r hr) fl 0 S31 (by omega) (by omega) (fun j hj => by omega) (fun _ _ => rfl)
  have d1 : Mo_takeRead_L178 fl 0 S31 = some S42 := d1
  refine ⟨S42, ?_, ⟨by rw [d3 0 (by omega), c3 0 (by omega)]; exact p3, by rw [d3 0 (by omega), c3 0 (by omega)]; exact p4, by rw [d3 0 (by omega), c3 0 (by omega)]; exact p5, by rw [d3 0 (by omega), c3 0 (by omega)]; exact p6, by rw [d3 0 (by omega), c3 0 (by omega)]; exact p7, fun j hj => ?_, d2⟩, fun t t0 t1 t2 => by rw [d3 t t1, c3 t t2, p1 t t0], fun k hk => by rw [d3 0 (by omega), c3 0 (by omega), p2 k hk]⟩
  · rw [p8, a1]
    simp only [px_1, px_lt]
    rw [s17, show (0 : Int32) = nI 0 from rfl, px_ck _ (by decide) (by decide), nI_clamp (by decide), show nI 0 = (0 : Int32) from rfl, b1]
    simp only [px_1]
    rw [c1]
    simp only [px_1]
    rw [d1]
    rfl
  · rw [d3 2 (by omega)]
    by_cases e : j = 0 ∨ (1 ≤ j ∧ j < 1 + nr) ∨ (5 ≤ j ∧ j < 5 + nr) ∨ (9 ≤ j ∧ j < 9 + nr) ∨ (13 ≤ j ∧ j < 13 + nn) ∨ (17 ≤ j ∧ j < 17 + nn)
    · exact (c2 j hj).1 e
    · rw [(c2 j hj).2 e, z2 j (by omega) hj (by omega)]
end PT
