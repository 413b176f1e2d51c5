theorem px_cd_up {g : Nat → Nat} {j v r : Nat} (hj : 13 ≤ j) (hr : r < 4) : px_cd (va_up g j v) r = px_cd g r := by
  unfold px_cd va_up
  rw [if_neg (by omega), if_neg (by omega), if_neg (by omega)]
theorem px_upn {g : Nat → Nat} {j v i : Nat} (h : i ≠ j) : va_up g j v i = g i := if_neg h
theorem px_ups {g : Nat → Nat} {j v : Nat} : va_up g j v j = v := if_pos rfl
section PS
variable {C M : gm_M} {d nr nn np : Nat} {kd g : Nat → Nat} {fl : Nat}
theorem ct_at {r a : Nat} (h0 : px_V0 d nr nn np kd) (h : px_CT C 8 d nr nn np kd g) (hr : r < nn) : px_CT (gm_ui C 10 (r * 2) (nI a)) 8 d nr nn np kd (va_up g (13 + r) a) := by
  obtain ⟨b0, b1, b2, b3, -⟩ := h0
  obtain ⟨h1, h2, h3, h4, h5, h6, h7, h8, h9⟩ := h
  refine ⟨by rw [px_ui0 _ _ _ _ _ (by omega)]; exact h1, by rw [px_ui0 _ _ _ _ _ (by omega), px_upn (by omega)]; exact h2, by rw [px_ui0 _ _ _ _ _ (by omega), px_upn (by omega)]; exact h3, by rw [px_ui0 _ _ _ _ _ (by omega)]; exact h4, by rw [px_ui0 _ _ _ _ _ (by omega)]; exact h5, by rw [px_ui0 _ _ _ _ _ (by omega)]; exact h6, fun q hq => by rw [px_ui0 _ _ _ _ _ (by omega), px_cd_up (by omega) (by omega)]; exact h7 q hq, fun q hq => ?_, fun q hq => ?_⟩
  · obtain ⟨x1, x2⟩ := h8 q hq
    rw [px_ui, px_ui, if_pos rfl, if_pos rfl, if_neg (show ¬ q * 2 + 1 = r * 2 by omega), px_upn (show 17 + q ≠ 13 + r by omega)]
    refine ⟨?_, x2⟩
    by_cases e : q = r
    · subst e; rw [if_pos rfl, px_ups]
    · rw [if_neg (by omega), px_upn (by omega)]; exact x1
  · rw [px_ui0 _ _ _ _ _ (by omega), px_upn (by omega), px_upn (by omega), px_upn (by omega), px_upn (by omega)]
    exact h9 q hq
theorem ct_left {r a : Nat} (h0 : px_V0 d nr nn np kd) (h : px_CT C 8 d nr nn np kd g) (hr : r < nn) : px_CT (gm_ui C 10 (r * 2 + 1) (nI a)) 8 d nr nn np kd (va_up g (17 + r) a) := by
  obtain ⟨b0, b1, b2, b3, -⟩ := h0
  obtain ⟨h1, h2, h3, h4, h5, h6, h7, h8, h9⟩ := h
  refine ⟨by rw [px_ui0 _ _ _ _ _ (by omega)]; exact h1, by rw [px_ui0 _ _ _ _ _ (by omega), px_upn (by omega)]; exact h2, by rw [px_ui0 _ _ _ _ _ (by omega), px_upn (by omega)]; exact h3, by rw [px_ui0 _ _ _ _ _ (by omega)]; exact h4, by rw [px_ui0 _ _ _ _ _ (by omega)]; exact h5, by rw [px_ui0 _ _ _ _ _ (by omega)]; exact h6, fun q hq => by rw [px_ui0 _ _ _ _ _ (by omega), px_cd_up (by omega) (by omega)]; exact h7 q hq, fun q hq => ?_, fun q hq => ?_⟩
  · obtain ⟨x1, x2⟩ := h8 q hq
    rw [px_ui, px_ui, if_pos rfl, if_pos rfl, if_neg (show ¬ q * 2 = r * 2 + 1 by omega), px_upn (show 13 + q ≠ 17 + r by omega)]
    refine ⟨x1, ?_⟩
    by_cases e : q = r
    · subst e; rw [if_pos rfl, px_ups]
    · rw [if_neg (by omega), px_upn (by omega)]; exact x2
  · rw [px_ui0 _ _ _ _ _ (by omega), px_upn (by omega), px_upn (by omega), px_upn (by omega), px_upn (by omega)]
    exact h9 q hq
theorem ct_cnt {p q a : Nat} (h0 : px_V0 d nr nn np kd) (h : px_CT C 8 d nr nn np kd g) (hp : p < np) (hq : q = 1 ∨ q = 2 ∨ q = 3 ∨ q = 4) : px_CT (gm_ui C 11 (p * 5 + q) (nI a)) 8 d nr nn np kd (va_up g (16 + 5 * q + p) a) := by
  obtain ⟨b0, b1, b2, b3, -⟩ := h0
  obtain ⟨h1, h2, h3, h4, h5, h6, h7, h8, h9⟩ := h
  refine ⟨by rw [px_ui0 _ _ _ _ _ (by omega)]; exact h1, by rw [px_ui0 _ _ _ _ _ (by omega), px_upn (by omega)]; exact h2, by rw [px_ui0 _ _ _ _ _ (by omega), px_upn (by omega)]; exact h3, by rw [px_ui0 _ _ _ _ _ (by omega)]; exact h4, by rw [px_ui0 _ _ _ _ _ (by omega)]; exact h5, by rw [px_ui0 _ _ _ _ _ (by omega)]; exact h6, fun i hi => by rw [px_ui0 _ _ _ _ _ (by omega), px_cd_up (by omega) (by omega)]; exact h7 i hi, fun i hi => ?_, fun i hi => ?_⟩
  · rw [px_ui0 _ _ _ _ _ (by omega), px_upn (by omega), px_upn (by omega)]
    exact h8 i hi
  · obtain ⟨x0, x1, x2, x3, x4⟩ := h9 i hi
    simp only [px_ui, if_true]
    refine ⟨by rw [if_neg (by omega)]; exact x0, ?_, ?_, ?_, ?_⟩
    · by_cases e : p * 5 + q = i * 5 + 1
      · rw [if_pos e.symm, show 21 + i = 16 + 5 * q + p by omega, px_ups]
      · rw [if_neg (fun z => e z.symm), px_upn (by omega)]; exact x1
    · by_cases e : p * 5 + q = i * 5 + 2
      · rw [if_pos e.symm, show 26 + i = 16 + 5 * q + p by omega, px_ups]
      · rw [if_neg (fun z => e z.symm), px_upn (by omega)]; exact x2
    · by_cases e : p * 5 + q = i * 5 + 3
      · rw [if_pos e.symm, show 31 + i = 16 + 5 * q + p by omega, px_ups]
      · rw [if_neg (fun z => e z.symm), px_upn (by omega)]; exact x3
    · by_cases e : p * 5 + q = i * 5 + 4
      · rw [if_pos e.symm, show 36 + i = 16 + 5 * q + p by omega, px_ups]
      · rw [if_neg (fun z => e z.symm), px_upn (by omega)]; exact x4
theorem mt_up {j a : Nat} (h : px_MT M d nr nn np kd g) (hj : j < 42) : px_MT (gm_ui M 2 j (nI a)) d nr nn np kd (va_up g j a) := by
  obtain ⟨h1, h2, h3, h4, h5, h6, h7⟩ := h
  refine ⟨by rw [px_ui0 _ _ _ _ _ (by omega)]; exact h1, by rw [px_ui0 _ _ _ _ _ (by omega)]; exact h2, by rw [px_ui0 _ _ _ _ _ (by omega)]; exact h3, by rw [px_ui0 _ _ _ _ _ (by omega)]; exact h4, by rw [px_ui0 _ _ _ _ _ (by omega)]; exact h5, fun i hi => ?_, fun p hp => by rw [px_ui0 _ _ _ _ _ (by omega)]; exact h7 p hp⟩
  rw [px_ui, if_pos rfl]
  by_cases e : i = j
  · subst e; rw [if_pos rfl, px_ups]
  · rw [if_neg e, px_upn e]; exact h6 i hi
theorem px_ry_g {g' : Nat → Nat} (hg : ∀ j, j < 13 → g' j = g j) {r : Nat} (hr : r < 4) : px_ry d g' r = px_ry d g r := by
  funext n
  unfold px_ry
  rw [hg (1 + r) (by omega), hg (5 + r) (by omega), hg (9 + r) (by omega)]
theorem px_lb_g {g' : Nat → Nat} (hg : ∀ j, j < 13 → g' j = g j) (hnr : nr ≤ 4) (but : Nat) : px_lb d nr g' but = px_lb d nr g but := by
  funext n
  have key : ∀ r, r ≤ nr → px_yc d g' but n r = px_yc d g but n r := by
    intro r
    induction r with
    | zero => intro _; rfl
    | succ r ih =>
      intro h
      simp only [px_yc]
      rw [ih (by omega), px_ry_g hg (by omega)]
  unfold px_lb
  rw [key nr (Nat.le_refl _), hg 0 (by omega)]
theorem px_lk_g {g' : Nat → Nat} (hg : ∀ j, j < 13 → g' j = g j) (hnr : nr ≤ 4) : px_lk d nr g' = px_lk d nr g := px_lb_g hg hnr 99
theorem px_TB_g {g' : Nat → Nat} (hg : ∀ j, j < 13 → g' j = g j) (hnr : nr ≤ 4) (h : px_TB C d nr g) : px_TB C d nr g' := by
  obtain ⟨a1, a2, a3, a4, a5, a6, a7, a8⟩ := h
  refine ⟨a1, a2, a3, a4, by rw [hg 0 (by omega)]; exact a5, by rw [px_lk_g hg hnr]; exact a6, fun r hr => ?_, by rw [px_lk_g hg hnr]; exact a8⟩
  rw [px_ry_g hg (by omega)]
  unfold px_cd
  rw [hg (1 + r) (by omega), hg (5 + r) (by omega), hg (9 + r) (by omega)]
  exact a7 r hr
def px_inc (v : Nat) : Nat := if v < 9999 then v + 1 else v
theorem px_inc_m {v w : Nat} (h : v ≤ w) (hw : w ≤ 9999) : px_inc v ≤ px_inc w := by unfold px_inc; split <;> split <;> omega
theorem px_inc_g (v : Nat) : v ≤ px_inc v := by unfold px_inc; split <;> omega
theorem px_inc_le {v : Nat} (h : v ≤ 9999) : px_inc v ≤ 9999 := by unfold px_inc; split <;> omega
theorem px_one {p q : Nat} (h0 : px_V0 d nr nn np kd) (h1 : px_V1 d nr nn g) (h : px_CT C 8 d nr nn np kd g) (hp : p < np) (hq : q = 1 ∨ q = 2 ∨ q = 3 ∨ q = 4) : Tr_countOneMore 8 (nI p) (nI q) C = some (gm_ui C 11 (p * 5 + q) (nI (px_inc (g (16 + 5 * q + p))))) := by
  have hb := h0.2.2.2.1
  have hc : C.1 (8 + 3) (p * 5 + q) = nI (g (16 + 5 * q + p)) := by
    obtain ⟨-, x1, x2, x3, x4⟩ := h.2.2.2.2.2.2.2.2 p hp
    rcases hq with rfl | rfl | rfl | rfl
    · exact x1
    · exact x2
    · exact x3
    · exact x4
  have hv := h1.2.2.2.1 (16 + 5 * q + p) (by omega) (by omega)
  unfold Tr_countOneMore px_inc
  by_cases c : g (16 + 5 * q + p) < 9998
  · rw [if_pos (show g (16 + 5 * q + p) < 9999 by omega)]
    simp (disch := omega) only [px_lit, px_litL, px_lt, px_1, px_2, px_3, px_ck, px_rm, px_le, px_ltI, px_eq, px_ne1, nI_add, pk_mul, pk_sub, pk_div, nI_clamp, px_ui, px_ui2, px_uj1, px_uj, px_uf, px_uf2, if_pos, if_neg, if_true, if_false, ↓reduceIte, hc]
  · by_cases c2 : g (16 + 5 * q + p) = 9998
    · rw [if_pos (show g (16 + 5 * q + p) < 9999 by omega)]
      simp (disch := omega) only [px_lit, px_litL, px_lt, px_1, px_2, px_3, px_ck, px_rm, px_le, px_ltI, px_eq, px_ne1, nI_add, pk_mul, pk_sub, pk_div, nI_clamp, px_ui, px_ui2, px_uj1, px_uj, px_uf, px_uf2, if_pos, if_neg, if_true, if_false, ↓reduceIte, hc, c2]
    · rw [if_neg (show ¬ g (16 + 5 * q + p) < 9999 by omega), show g (16 + 5 * q + p) = 9999 by omega]
      have hc : C.1 (8 + 3) (p * 5 + q) = nI 9999 := by rw [hc, show g (16 + 5 * q + p) = 9999 by omega]
      simp (disch := omega) only [px_lit, px_litL, px_lt, px_1, px_2, px_3, px_ck, px_rm, px_le, px_ltI, px_eq, px_ne1, nI_add, pk_mul, pk_sub, pk_div, nI_clamp, px_ui, px_ui2, px_uj1, px_uj, px_uf, px_uf2, if_pos, if_neg, if_true, if_false, ↓reduceIte, hc]
theorem px_more {j : Nat} (h1 : px_V1 d nr nn g) (h : px_MT M d nr nn np kd g) (hj : 21 ≤ j) (hj2 : j < 41) : Mo_more (nI j) M = some (gm_ui M 2 j (nI (px_inc (g j)))) := by
  have hv := h1.2.2.2.1 j hj hj2
  have hc := px_mrow h (show j < 42 by omega)
  unfold Mo_more px_inc
  by_cases c : g j < 9999
  · rw [if_pos c]
    simp (disch := omega) only [px_lit, px_litL, px_lt, px_1, px_2, px_3, px_ck, px_rm, px_le, px_ltI, px_eq, px_ne1, nI_add, pk_mul, pk_sub, pk_div, nI_clamp, px_ui, px_ui2, px_uj1, px_uj, px_uf, px_uf2, if_pos, if_neg, if_true, if_false, ↓reduceIte, hc]
  · rw [if_neg c]
    simp (disch := omega) only [px_lit, px_litL, px_lt, px_1, px_2, px_3, px_ck, px_rm, px_le, px_ltI, px_eq, px_ne1, nI_add, pk_mul, pk_sub, pk_div, nI_clamp, px_ui, px_ui2, px_uj1, px_uj, px_uf, px_uf2, if_pos, if_neg, if_true, if_false, ↓reduceIte, hc]
    rfl
theorem px_V1_cnt {j v : Nat} (h : px_V1 d nr nn g) (hk : ∀ p, p < 5 → va_up g j v (26 + p) ≤ va_up g j v (21 + p)) (hj : 21 ≤ j) (hj2 : j < 41) (hv : v ≤ 9999) (hnn : nn ≤ 4) (hnr : nr ≤ 4) : px_V1 d nr nn (va_up g j v) := by
  obtain ⟨a1, a2, a3, a4, a5⟩ := h
  refine ⟨by rw [px_upn (by omega)]; exact a1, fun r hr => by rw [px_upn (by omega), px_upn (by omega), px_upn (by omega)]; exact a2 r hr, fun r hr => by rw [px_upn (by omega), px_upn (by omega)]; exact a3 r hr, fun i h1 h2 => ?_, by rw [px_upn (by omega)]; exact a5.1, hk⟩
  by_cases e : i = j
  · subst e; rw [px_ups]; exact hv
  · rw [px_upn e]; exact a4 i h1 h2
theorem px_V1_at {r a : Nat} (h : px_V1 d nr nn g) (hr : r < 4) (ha : a < px_num d) (hnr : nr ≤ 4) (hnn : nn ≤ 4) : px_V1 d nr nn (va_up g (13 + r) a) := by
  obtain ⟨a1, a2, a3, a4, a5⟩ := h
  refine ⟨by rw [px_upn (by omega)]; exact a1, fun q hq => by rw [px_upn (by omega), px_upn (by omega), px_upn (by omega)]; exact a2 q hq, fun q hq => ?_, fun i h1 h2 => by rw [px_upn (by omega)]; exact a4 i h1 h2, by rw [px_upn (by omega)]; exact a5.1, fun p hp => by rw [px_upn (by omega), px_upn (by omega)]; exact a5.2 p hp⟩
  rw [px_upn (show 17 + q ≠ 13 + r by omega)]
  refine ⟨?_, (a3 q hq).2⟩
  by_cases e : q = r
  · subst e; rw [px_ups]; exact ha
  · rw [px_upn (by omega)]; exact (a3 q hq).1
theorem px_V1_left {r a : Nat} (h : px_V1 d nr nn g) (hr : r < 4) (ha : a ≤ 200) (hnr : nr ≤ 4) (hnn : nn ≤ 4) : px_V1 d nr nn (va_up g (17 + r) a) := by
  obtain ⟨a1, a2, a3, a4, a5⟩ := h
  refine ⟨by rw [px_upn (by omega)]; exact a1, fun q hq => by rw [px_upn (by omega), px_upn (by omega), px_upn (by omega)]; exact a2 q hq, fun q hq => ?_, fun i h1 h2 => by rw [px_upn (by omega)]; exact a4 i h1 h2, by rw [px_upn (by omega)]; exact a5.1, fun p hp => by rw [px_upn (by omega), px_upn (by omega)]; exact a5.2 p hp⟩
  rw [px_upn (show 13 + q ≠ 17 + r by omega)]
  refine ⟨(a3 q hq).1, ?_⟩
  by_cases e : q = r
  · subst e; rw [px_ups]; exact ha
  · rw [px_upn (by omega)]; exact (a3 q hq).2
theorem px_upc {f : Nat → Nat} {a b x y : Nat} (h : a ≠ b) : va_up (va_up f a x) b y = va_up (va_up f b y) a x := by
  funext i
  unfold va_up
  by_cases e1 : i = b
  · subst e1
    rw [if_pos rfl, if_neg (fun q => h q.symm), if_pos rfl]
  · rw [if_neg e1, if_neg e1]
theorem px_V1_d {v : Nat} (h : px_V1 d nr nn g) (hv : v ≤ 9060) (hnr : nr ≤ 4) (hnn : nn ≤ 4) : px_V1 d nr nn (va_up g 41 v) := by
  obtain ⟨a1, a2, a3, a4, a5⟩ := h
  exact ⟨by rw [px_upn (by omega)]; exact a1, fun r hr => by rw [px_upn (by omega), px_upn (by omega), px_upn (by omega)]; exact a2 r hr, fun r hr => by rw [px_upn (by omega), px_upn (by omega)]; exact a3 r hr, fun i h1 h2 => by rw [px_upn (by omega)]; exact a4 i h1 h2, by rw [px_ups]; exact hv, fun p hp => by rw [px_upn (by omega), px_upn (by omega)]; exact a5.2 p hp⟩
theorem px_keep {p z : Nat} (b : Bool) (hz : z ≤ 9060) (h0 : px_V0 d nr nn np kd) (h1 : px_V1 d nr nn g) (h : px_CT C 8 d nr nn np kd g) (hM : px_MT M d nr nn np kd (va_up g 41 z)) (hp : p < np) : ∃ C' M' g', Tr_keepTicket 8 (nI p) (nI b.toNat) C = some C' ∧ Mo_more (nI (21 + p)) M = some (gm_ui M 2 (21 + p) (nI (px_inc (g (21 + p))))) ∧ (b = false → M' = gm_ui M 2 (21 + p) (nI (px_inc (g (21 + p))))) ∧ (b = true → Mo_more (nI (26 + p)) (gm_ui M 2 (21 + p) (nI (px_inc (g (21 + p))))) = some M') ∧ px_CT C' 8 d nr nn np kd g' ∧ px_MT M' d nr nn np kd (va_up g' 41 z) ∧ px_V1 d nr nn g' ∧ (∀ j, (j < 21 ∨ 41 ≤ j) → g' j = g j) ∧ (∀ t, t ≠ 11 → C'.1 t = C.1 t) ∧ C'.2 = C.2 ∧ (∀ t, t ≠ 2 → M'.1 t = M.1 t) := by
  have hnp := h0.2.2.2.1
  have hnn := h0.2.2.1
  have hnr := h0.2.1
  have o1 := px_one (q := 1) h0 h1 h hp (Or.inl rfl)
  have m1 := px_more (j := 21 + p) (px_V1_d h1 hz hnr hnn) hM (by omega) (by omega)
  rw [px_upn (show 21 + p ≠ 41 by omega)] at m1
  have hv1 := h1.2.2.2.1 (21 + p) (by omega) (by omega)
  have c1 := ct_cnt (q := 1) (a := px_inc (g (21 + p))) h0 h hp (Or.inl rfl)
  have c1 : px_CT (gm_ui C 11 (p * 5 + 1) (nI (px_inc (g (21 + p))))) 8 d nr nn np kd (va_up g (21 + p) (px_inc (g (21 + p)))) := c1
  have t1 := mt_up (j := 21 + p) (a := px_inc (g (21 + p))) hM (by omega)
  rw [px_upc (show 41 ≠ 21 + p by omega)] at t1
  have k1 : ∀ i, i < 5 → va_up g (21 + p) (px_inc (g (21 + p))) (26 + i) ≤ va_up g (21 + p) (px_inc (g (21 + p))) (21 + i) := fun i hi => by
    have b0 := h1.2.2.2.2.2 i hi
    rw [px_upn (by omega)]
    by_cases e : i = p
    · subst e; rw [px_ups]; exact Nat.le_trans b0 (px_inc_g _)
    · rw [px_upn (by omega)]; exact b0
  have v1 := px_V1_cnt (j := 21 + p) h1 k1 (by omega) (by omega) (px_inc_le hv1) hnn hnr
  have o1 : Tr_countOneMore 8 (nI p) 1 C = some (gm_ui C 11 (p * 5 + 1) (nI (px_inc (g (21 + p))))) := o1
  cases b
  · refine ⟨_, _, _, ?_, m1, fun _ => rfl, (fun h => nomatch h), c1, t1, v1, fun j hj => px_upn (by omega), fun t ht => px_ui0 _ _ _ _ _ ht, rfl, fun t ht => px_ui0 _ _ _ _ _ ht⟩
    unfold Tr_keepTicket
    rw [o1]
    rfl
  · have o2 := px_one (q := 2) h0 v1 c1 hp (Or.inr (Or.inl rfl))
    have e26 : va_up g (21 + p) (px_inc (g (21 + p))) (26 + p) = g (26 + p) := px_upn (by omega)
    have o2 : Tr_countOneMore 8 (nI p) 2 (gm_ui C 11 (p * 5 + 1) (nI (px_inc (g (21 + p))))) = some (gm_ui (gm_ui C 11 (p * 5 + 1) (nI (px_inc (g (21 + p))))) 11 (p * 5 + 2) (nI (px_inc (va_up g (21 + p) (px_inc (g (21 + p))) (26 + p))))) := o2
    rw [e26] at o2
    have m2 := px_more (j := 26 + p) (px_V1_d v1 hz hnr hnn) t1 (by omega) (by omega)
    rw [px_upn (show 26 + p ≠ 41 by omega), e26] at m2
    have hv2 := h1.2.2.2.1 (26 + p) (by omega) (by omega)
    have c2 := ct_cnt (q := 2) (a := px_inc (g (26 + p))) h0 c1 hp (Or.inr (Or.inl rfl))
    have c2 : px_CT (gm_ui (gm_ui C 11 (p * 5 + 1) (nI (px_inc (g (21 + p))))) 11 (p * 5 + 2) (nI (px_inc (g (26 + p))))) 8 d nr nn np kd (va_up (va_up g (21 + p) (px_inc (g (21 + p)))) (26 + p) (px_inc (g (26 + p)))) := c2
    have t2 := mt_up (j := 26 + p) (a := px_inc (g (26 + p))) t1 (by omega)
    rw [px_upc (show 41 ≠ 26 + p by omega)] at t2
    have k2 : ∀ i, i < 5 → va_up (va_up g (21 + p) (px_inc (g (21 + p)))) (26 + p) (px_inc (g (26 + p))) (26 + i) ≤ va_up (va_up g (21 + p) (px_inc (g (21 + p)))) (26 + p) (px_inc (g (26 + p))) (21 + i) := fun i hi => by
      have b0 := h1.2.2.2.2.2 i hi
      by_cases e : i = p
      · subst e
        rw [px_ups, px_upn (by omega), px_ups]
        exact px_inc_m b0 hv1
      · have := k1 i hi
        rw [px_upn (show 26 + i ≠ 26 + p by omega), px_upn (show 21 + i ≠ 26 + p by omega)]
        exact this
    have v2 := px_V1_cnt (j := 26 + p) v1 k2 (by omega) (by omega) (px_inc_le hv2) hnn hnr
    refine ⟨_, _, _, ?_, m1, (fun h => nomatch h), fun _ => m2, c2, t2, v2, fun j hj => by rw [px_upn (by omega), px_upn (by omega)], fun t ht => by rw [px_ui0 _ _ _ _ _ ht, px_ui0 _ _ _ _ _ ht], rfl, fun t ht => by rw [px_ui0 _ _ _ _ _ ht, px_ui0 _ _ _ _ _ ht]⟩
    unfold Tr_keepTicket
    rw [o1]
    simp only [px_1]
    rw [if_neg (show ¬ nI (true.toNat) = (0 : Int32) by decide), o2]
    rfl
end PS
section PS2
variable {C M : gm_M} {d nr nn np : Nat} {kd g : Nat → Nat} {fl : Nat}
def px_mhand (v9 a1 x2 : Int32) (S8 : gm_M) : Option (Int32 × gm_M) :=
  if v9 = 0 then
    gm_bp1 (show Option Int32 from gm_ck a1 5 <| if S8.1 1 a1.toNatClampNeg = 3 then (if S8.1 0 4 = 0 then none else some (gm_rm (a1 + 1) (S8.1 0 4))) else some a1) fun x12 =>
    gm_bp1 (Mo_more (21 + x12) S8) fun S13 => some (x2, S13)
  else
    gm_ck a1 5 <| if S8.1 1 a1.toNatClampNeg = 1 then gm_bp1 (Mo_more (31 + a1) S8) fun S53 => some (x2, S53)
    else gm_ck a1 5 <| if S8.1 1 a1.toNatClampNeg = 2 then gm_bp1 (Mo_more (36 + a1) S8) fun S52 => some (x2, S52)
    else gm_bp1 (Mo_more (21 + a1) S8) fun S45 => gm_bp1 (Mo_more (26 + a1) S45) fun S47 => some (x2, S47)
theorem px_sellNow_eq (fl : Nat) (a0 a1 : Int32) (S : gm_M) : Mo_sellNow fl a0 a1 S = (gm_ck (13 + a0) 42 <| gm_lt (α := Int32) (S.1 2 (13 + a0).toNatClampNeg) fun x2 => gm_bp1 (show Option Int32 from if x2 = S.1 0 1 then some 0 else some (x2 + 1)) fun x3 => gm_ck (13 + a0) 42 <| gm_lt (α := gm_M) (gm_ui S 2 ((13 + a0).toNatClampNeg) x3) fun S5 => gm_ck (17 + a0) 42 <| gm_ck (17 + a0) 42 <| gm_lt (α := gm_M) (gm_ui S5 2 ((17 + a0).toNatClampNeg) ((S5.1 2 (17 + a0).toNatClampNeg) - 1)) fun S8 => gm_bp1 (Mo_isLucky fl x2 S8) fun v9 => px_mhand v9 a1 x2 S8) := by
  unfold Mo_sellNow px_mhand
  congr 1
  simp only [px_lt]
  congr 1
  funext x3
  congr 1
  congr 1
  congr 1
  congr 1
  funext v9
  by_cases h : v9 = 0
  · simp only [h, if_true]
  · simp only [h, if_false]
    rfl
def px_chand (t : Nat) (a0 a1 v1 : Int32) (S : gm_M) : Option gm_M :=
  if a1 = 0 then (if v1 = 3 then (if S.1 t 8 ≤ a0 + 1 then gm_bp1 (Tr_keepTicket t 0 0 S) (fun S9 => some S9) else gm_bp1 (Tr_keepTicket t (a0 + 1) 0 S) (fun S9 => some S9)) else gm_bp1 (Tr_keepTicket t a0 a1 S) (fun S9 => some S9))
  else if v1 = 1 then gm_bp1 (Tr_countOneMore t a0 3 S) (fun S9 => some S9) else if v1 = 2 then gm_bp1 (Tr_countOneMore t a0 4 S) (fun S9 => some S9) else gm_bp1 (Tr_keepTicket t a0 a1 S) (fun S9 => some S9)
theorem px_handOver_eq (t : Nat) (a0 a1 : Int32) (S : gm_M) : Tr_handOver t a0 a1 S = gm_bp1 (Tr_riderCell t a0 0 S) fun v1 => px_chand t a0 a1 v1 S := by
  unfold Tr_handOver px_chand
  congr 1
  funext v1
  by_cases h : a1 = 0
  · simp only [h, if_true]
  · simp only [h, if_false]
theorem px_hand {p x z : Nat} (b : Bool) (hz : z ≤ 9060) (h0 : px_V0 d nr nn np kd) (h1 : px_V1 d nr nn g) (h : px_CT C 8 d nr nn np kd g) (hM : px_MT M d nr nn np kd (va_up g 41 z)) (hp : p < np) : ∃ C' M' g', Tr_handOver 8 (nI p) (nI b.toNat) C = some C' ∧ px_mhand (nI b.toNat) (nI p) (nI x) M = some (nI x, M') ∧ px_CT C' 8 d nr nn np kd g' ∧ px_MT M' d nr nn np kd (va_up g' 41 z) ∧ px_V1 d nr nn g' ∧ (∀ j, (j < 21 ∨ 41 ≤ j) → g' j = g j) ∧ (∀ t, t ≠ 11 → C'.1 t = C.1 t) ∧ C'.2 = C.2 ∧ (∀ t, t ≠ 2 → M'.1 t = M.1 t) := by
  have hnp := h0.2.2.2.1
  have hnn := h0.2.2.1
  have hnr := h0.2.1
  have hk := h0.2.2.2.2.2 p hp
  have hkd := hM.2.2.2.2.2.2 p hp
  rw [px_handOver_eq, (px_rider h h0 hp).1]
  simp only [px_1]
  unfold px_chand px_mhand
  rw [h.2.2.2.2.2.1, hM.2.2.2.2.1]
  cases b
  ·
    rw [if_pos (show nI false.toNat = (0 : Int32) from rfl), if_pos (show nI false.toNat = (0 : Int32) from rfl)]
    by_cases k3 : kd p = 3
    · obtain ⟨C', M', g', q1, q2, q3, q4, q5⟩ := px_keep (p := (p + 1) % np) false hz h0 h1 h hM (Nat.mod_lt _ (by omega))
      have q1 : Tr_keepTicket 8 (nI ((p + 1) % np)) (nI 0) C = some C' := q1
      refine ⟨C', M', g', ?_, ?_, q5⟩
      · rw [if_pos (show nI (kd p) = (3 : Int32) from by rw [k3]; rfl), show nI p + 1 = nI (p + 1) from nI_1 p]
        by_cases c : np ≤ p + 1
        · rw [if_pos ((nI_leI (by omega) (by omega)).mpr c)]
          rw [show (p + 1) % np = 0 by rw [show p + 1 = np by omega, Nat.mod_self]] at q1
          have q1 : Tr_keepTicket 8 0 0 C = some C' := q1
          rw [q1]; rfl
        · rw [if_neg (fun z => c ((nI_leI (by omega) (by omega)).mp z))]
          rw [Nat.mod_eq_of_lt (show p + 1 < np by omega)] at q1
          have q1 : Tr_keepTicket 8 (nI (p + 1)) 0 C = some C' := q1
          rw [q1]; rfl
      · have hm : (p + 1) % np < np := Nat.mod_lt _ (by omega)
        simp (disch := omega) only [px_ck, nI_clamp]
        rw [hkd, if_pos (show nI (kd p) = (3 : Int32) from by rw [k3]; rfl), if_neg (show ¬ nI np = (0 : Int32) from fun z => by have := (nI_eq (b := 0) (by omega) (by omega)).mp z; omega), show nI p + 1 = nI (p + 1) from nI_1 p, px_rm (by omega) (by omega) (by omega)]
        simp only [px_1]
        rw [show (21 : Int32) + nI ((p + 1) % np) = nI (21 + (p + 1) % np) from nI_add 21 _, q2, q3 rfl]
        rfl
    · obtain ⟨C', M', g', q1, q2, q3, q4, q5⟩ := px_keep (p := p) false hz h0 h1 h hM hp
      refine ⟨C', M', g', ?_, ?_, q5⟩
      · rw [if_neg (show ¬ nI (kd p) = (3 : Int32) from fun z => k3 ((nI_eq (b := 3) (by omega) (by omega)).mp z)), q1]; rfl
      · simp (disch := omega) only [px_ck, nI_clamp]
        rw [hkd, if_neg (show ¬ nI (kd p) = (3 : Int32) from fun z => k3 ((nI_eq (b := 3) (by omega) (by omega)).mp z))]
        simp only [px_1]
        rw [show (21 : Int32) + nI p = nI (21 + p) from nI_add 21 _, q2, q3 rfl]
        rfl
  · rw [if_neg (show ¬ nI true.toNat = (0 : Int32) by decide), if_neg (show ¬ nI true.toNat = (0 : Int32) by decide)]
    simp (disch := omega) only [px_ck, nI_clamp]
    rw [hkd]
    by_cases k1 : kd p = 1
    · have o := px_one (q := 3) h0 h1 h hp (by omega)
      have o : Tr_countOneMore 8 (nI p) 3 C = some (gm_ui C 11 (p * 5 + 3) (nI (px_inc (g (31 + p))))) := o
      have m := px_more (j := 31 + p) (px_V1_d h1 hz hnr hnn) hM (by omega) (by omega)
      rw [px_upn (show 31 + p ≠ 41 by omega)] at m
      have hv := h1.2.2.2.1 (31 + p) (by omega) (by omega)
      have c := ct_cnt (q := 3) (a := px_inc (g (31 + p))) h0 h hp (by omega)
      have c : px_CT (gm_ui C 11 (p * 5 + 3) (nI (px_inc (g (31 + p))))) 8 d nr nn np kd (va_up g (31 + p) (px_inc (g (31 + p)))) := c
      refine ⟨_, _, _, ?_, ?_, c, (by rw [← px_upc (show 41 ≠ 31 + p by omega)]; exact mt_up (j := 31 + p) hM (by omega)), px_V1_cnt h1 (fun i hi => by rw [px_upn (by omega), px_upn (by omega)]; exact h1.2.2.2.2.2 i hi) (by omega) (by omega) (px_inc_le hv) hnn hnr, fun j hj => px_upn (by omega), fun t ht => px_ui0 _ _ _ _ _ ht, rfl, fun t ht => px_ui0 _ _ _ _ _ ht⟩
      · rw [if_pos (show nI (kd p) = (1 : Int32) from by rw [k1]; rfl), o]; rfl
      · rw [if_pos (show nI (kd p) = (1 : Int32) from by rw [k1]; rfl), show (31 : Int32) + nI p = nI (31 + p) from nI_add 31 _, m]; rfl
    · by_cases k2 : kd p = 2
      · have o := px_one (q := 4) h0 h1 h hp (by omega)
        have o : Tr_countOneMore 8 (nI p) 4 C = some (gm_ui C 11 (p * 5 + 4) (nI (px_inc (g (36 + p))))) := o
        have m := px_more (j := 36 + p) (px_V1_d h1 hz hnr hnn) hM (by omega) (by omega)
        rw [px_upn (show 36 + p ≠ 41 by omega)] at m
        have hv := h1.2.2.2.1 (36 + p) (by omega) (by omega)
        have c := ct_cnt (q := 4) (a := px_inc (g (36 + p))) h0 h hp (by omega)
        have c : px_CT (gm_ui C 11 (p * 5 + 4) (nI (px_inc (g (36 + p))))) 8 d nr nn np kd (va_up g (36 + p) (px_inc (g (36 + p)))) := c
        refine ⟨_, _, _, ?_, ?_, c, (by rw [← px_upc (show 41 ≠ 36 + p by omega)]; exact mt_up (j := 36 + p) hM (by omega)), px_V1_cnt h1 (fun i hi => by rw [px_upn (by omega), px_upn (by omega)]; exact h1.2.2.2.2.2 i hi) (by omega) (by omega) (px_inc_le hv) hnn hnr, fun j hj => px_upn (by omega), fun t ht => px_ui0 _ _ _ _ _ ht, rfl, fun t ht => px_ui0 _ _ _ _ _ ht⟩
        · rw [if_neg (show ¬ nI (kd p) = (1 : Int32) from fun z => k1 ((nI_eq (b := 1) (by omega) (by omega)).mp z)), if_pos (show nI (kd p) = (2 : Int32) from by rw [k2]; rfl), o]; rfl
        · rw [if_neg (show ¬ nI (kd p) = (1 : Int32) from fun z => k1 ((nI_eq (b := 1) (by omega) (by omega)).mp z)), if_pos (show nI (kd p) = (2 : Int32) from by rw [k2]; rfl), show (36 : Int32) + nI p = nI (36 + p) from nI_add 36 _, m]; rfl
      · obtain ⟨C', M', g', q1, q2, q3, q4, q5⟩ := px_keep (p := p) true hz h0 h1 h hM hp
        refine ⟨C', M', g', ?_, ?_, q5⟩
        · rw [if_neg (show ¬ nI (kd p) = (1 : Int32) from fun z => k1 ((nI_eq (b := 1) (by omega) (by omega)).mp z)), if_neg (show ¬ nI (kd p) = (2 : Int32) from fun z => k2 ((nI_eq (b := 2) (by omega) (by omega)).mp z)), q1]; rfl
        · rw [if_neg (show ¬ nI (kd p) = (1 : Int32) from fun z => k1 ((nI_eq (b := 1) (by omega) (by omega)).mp z)), if_neg (show ¬ nI (kd p) = (2 : Int32) from fun z => k2 ((nI_eq (b := 2) (by omega) (by omega)).mp z)), show (21 : Int32) + nI p = nI (21 + p) from nI_add 21 _, q2]
          simp only [px_1]
          rw [show (26 : Int32) + nI p = nI (26 + p) from nI_add 26 _, q4 rfl]; rfl
theorem px_sell1 {r p z : Nat} (hz : z ≤ 9060) (hf : 20000 ≤ fl) (h0 : px_V0 d nr nn np kd) (h1 : px_V1 d nr nn g) (h : px_CT C 8 d nr nn np kd g) (hM : px_MT M d nr nn np kd (va_up g 41 z)) (hT : px_TB C d nr g) (hr : r < nn) (hp : p < np) (hl : 0 < g (17 + r)) : ∃ C' M' g', Lt_sellOne fl (nI r) (nI p) C = some (nI (px_lk d nr g (g (13 + r))).toNat, C') ∧ Mo_sellNow fl (nI r) (nI p) M = some (nI (g (13 + r)), M') ∧ px_CT C' 8 d nr nn np kd g' ∧ px_MT M' d nr nn np kd (va_up g' 41 z) ∧ px_V1 d nr nn g' ∧ (∀ j, j < 13 → g' j = g j) ∧ g' 41 = g 41 ∧ g' (17 + r) = g (17 + r) - 1 ∧ (∀ t, t ≠ 10 → t ≠ 11 → C'.1 t = C.1 t) ∧ C'.2 = C.2 ∧ (∀ t, t ≠ 2 → M'.1 t = M.1 t) := by
  have hd := px_V0_d h0
  have hn := px_num_le hd
  have hnn := h0.2.2.1
  have hnr := h0.2.1
  obtain ⟨hat, hle⟩ := h1.2.2.1 r hr
  obtain ⟨q1, q2⟩ := px_left h h0 hr
  have hlk := px_clk' hT hd hat
  have hbe := px_behind (fl := fl) (by omega) h hd hat
  have hmod : (g (13 + r) + 1) % px_num d < px_num d := Nat.mod_lt _ (by omega)
  have c1 := ct_at (a := (g (13 + r) + 1) % px_num d) h0 h hr
  have c2 := ct_left (r := r) (a := g (17 + r) - 1) h0 c1 hr
  have t1 := mt_up (j := 13 + r) (a := (g (13 + r) + 1) % px_num d) hM (by omega)
  rw [px_upc (show 41 ≠ 13 + r by omega)] at t1
  have t2 := mt_up (j := 17 + r) (a := g (17 + r) - 1) t1 (by omega)
  rw [px_upc (show 41 ≠ 17 + r by omega)] at t2
  have v1 := px_V1_at (r := r) h1 (by omega) hmod hnr hnn
  have v2 := px_V1_left (r := r) (a := g (17 + r) - 1) v1 (by omega) (by omega) hnr hnn
  obtain ⟨C', M', g', w1, w2, w3, w4, w5, w6, w7, w8, w9⟩ := px_hand (p := p) (x := g (13 + r)) (px_lk d nr g (g (13 + r))) hz h0 v2 c2 t2 hp
  have hg13 : ∀ j, j < 13 → va_up (va_up g (13 + r) ((g (13 + r) + 1) % px_num d)) (17 + r) (g (17 + r) - 1) j = g j := fun j hj => by rw [px_upn (by omega), px_upn (by omega)]
  have hml := px_mlk (fl := fl) (n := g (13 + r)) (by omega) t2 h0 (px_V1_d v2 hz hnr hnn) (by omega)
  rw [px_lk_g (g := g) (fun j hj => by rw [px_upn (by omega)]; exact hg13 j hj) hnr] at hml
  refine ⟨C', M', g', ?_, ?_, w3, w4, w5, fun j hj => by rw [w6 j (by omega)]; exact hg13 j hj, by rw [w6 41 (by omega), px_upn (by omega), px_upn (by omega)], by rw [w6 (17 + r) (by omega), px_ups], ?_, ?_, ?_⟩
  · unfold Lt_sellOne
    rw [q2]
    simp only [px_1]
    rw [hlk]
    simp only [px_1]
    have tk : Tr_takeTicket fl 8 (nI r) C = some (gm_ui (gm_ui C 10 (r * 2) (nI ((g (13 + r) + 1) % px_num d))) 10 (r * 2 + 1) (nI (g (17 + r) - 1))) := by
      unfold Tr_takeTicket
      rw [q2]
      simp only [px_1]
      rw [hbe, q1]
      simp only [px_1]
      unfold Tr_putRoll
      simp (disch := omega) only [px_lit, px_litL, px_lt, px_1, px_2, px_3, px_ck, px_rm, px_le, px_ltI, px_eq, px_ne1, nI_add, pk_mul, pk_sub, pk_div, nI_clamp, px_ui, px_ui2, px_uj1, px_uj, px_uf, px_uf2, if_pos, if_neg, if_true, if_false, ↓reduceIte]
    rw [tk]
    simp only [px_1]
    rw [w1]
    simp only [px_1, px_nb, if_true]
  · rw [px_sellNow_eq]
    have hx3 : (if nI (g (13 + r)) = nI (px_num d - 1) then (some 0 : Option Int32) else some (nI (g (13 + r)) + 1)) = some (nI ((g (13 + r) + 1) % px_num d)) := by
      rw [← px_wrap hat]
      by_cases c : px_num d ≤ g (13 + r) + 1
      · rw [if_pos c, if_pos (by rw [show g (13 + r) = px_num d - 1 by omega])]; rfl
      · rw [if_neg c, if_neg (fun z => by have := (nI_eq (by omega) (by omega)).mp z; omega), show nI (g (13 + r)) + 1 = nI (g (13 + r) + 1) from nI_1 _]
    have e13 : (13 : Int32) + nI r = nI (13 + r) := nI_add 13 r
    have e17 : (17 : Int32) + nI r = nI (17 + r) := nI_add 17 r
    rw [e13, e17, hM.2.1]
    simp only [px_lt]
    rw [px_ck _ (by omega) (by decide), nI_clamp (by omega), px_mrow hM (by omega), px_upn (by omega), hx3]
    simp only [px_1]
    rw [px_ck _ (by omega) (by decide), px_ck _ (by omega) (by decide), px_ck _ (by omega) (by decide), nI_clamp (by omega), px_mrow t1 (by omega), px_upn (by omega), px_upn (by omega), show nI (g (17 + r)) - 1 = nI (g (17 + r) - 1) from pk_sub (b := 1) (by omega), hml]
    exact w2
  · intro t h10 h11
    rw [w7 t h11, px_ui0 _ _ _ _ _ h10, px_ui0 _ _ _ _ _ h10]
  · rw [w8]; rfl
  · intro t ht
    rw [w9 t ht, px_ui0 _ _ _ _ _ ht, px_ui0 _ _ _ _ _ ht]
end PS2
