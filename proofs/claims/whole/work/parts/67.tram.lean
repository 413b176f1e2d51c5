def px_CT (C : gm_M) (t d nr nn np : Nat) (kd g : Nat → Nat) : Prop := C.1 t 3 = nI d ∧ C.1 t 4 = nI (g 0) ∧ C.1 t 5 = nI (g 41) ∧ C.1 t 6 = nI nr ∧ C.1 t 7 = nI nn ∧ C.1 t 8 = nI np ∧ (∀ r, r < nr → C.1 (t + 1) r = nI (px_cd g r)) ∧ (∀ r, r < nn → C.1 (t + 2) (r * 2) = nI (g (13 + r)) ∧ C.1 (t + 2) (r * 2 + 1) = nI (g (17 + r))) ∧ (∀ p, p < np → C.1 (t + 3) (p * 5) = nI (kd p) ∧ C.1 (t + 3) (p * 5 + 1) = nI (g (21 + p)) ∧ C.1 (t + 3) (p * 5 + 2) = nI (g (26 + p)) ∧ C.1 (t + 3) (p * 5 + 3) = nI (g (31 + p)) ∧ C.1 (t + 3) (p * 5 + 4) = nI (g (36 + p)))
theorem px_CT_k {C C' : gm_M} {t d nr nn np : Nat} {kd g : Nat → Nat} (h : px_CT C t d nr nn np kd g) (h0 : C'.1 t = C.1 t) (h1 : C'.1 (t + 1) = C.1 (t + 1)) (h2 : C'.1 (t + 2) = C.1 (t + 2)) (h3 : C'.1 (t + 3) = C.1 (t + 3)) : px_CT C' t d nr nn np kd g := by
  unfold px_CT
  rw [h0, h1, h2, h3]
  exact h
theorem px_copy (t o : Nat) (S : gm_M) (hto : t + 3 < o ∨ o + 3 < t) : ∃ S', Tr_copyFrom t o S = some S' ∧ (∀ k, 3 ≤ k → k < 9 → S'.1 t k = S.1 o k) ∧ (∀ k, k < 4 → S'.1 (t + 1) k = S.1 (o + 1) k) ∧ (∀ k, k < 8 → S'.1 (t + 2) k = S.1 (o + 2) k) ∧ (∀ k, k < 25 → S'.1 (t + 3) k = S.1 (o + 3) k) ∧ (∀ t', (t' < t ∨ t + 3 < t') → S'.1 t' = S.1 t') ∧ S'.2 = S.2 := by
  unfold Tr_copyFrom
  simp only [px_lt]
  refine ⟨_, rfl, ?_, ?_, ?_, ?_, ?_, rfl⟩
  · intro k h1 h2
    rcases (show k = 3 ∨ k = 4 ∨ k = 5 ∨ k = 6 ∨ k = 7 ∨ k = 8 by omega) with rfl | rfl | rfl | rfl | rfl | rfl <;> simp [px_ui, px_uf, show o ≠ t by omega]
  · intro k hk
    simp [px_ui, px_uf, va_cpy, hk, show o + 1 ≠ t by omega, show o + 1 ≠ t + 1 by omega]
  · intro k hk
    simp [px_ui, px_uf, va_cpy, hk, show o + 2 ≠ t by omega, show o + 2 ≠ t + 1 by omega, show o ≠ t by omega]
  · intro k hk
    simp [px_ui, px_uf, va_cpy, hk, show o + 3 ≠ t by omega, show o + 3 ≠ t + 1 by omega, show o + 3 ≠ t + 2 by omega, show o ≠ t by omega]
  · intro t' ht
    funext k
    simp [px_ui, px_uf, show t' ≠ t by omega, show t' ≠ t + 1 by omega, show t' ≠ t + 2 by omega, show t' ≠ t + 3 by omega]
theorem px_copy_CT {t o d nr nn np : Nat} {kd g : Nat → Nat} {S : gm_M} (hto : t + 3 < o ∨ o + 3 < t) (hnr : nr ≤ 4) (hnn : nn ≤ 4) (hnp : np ≤ 5) (h : px_CT S o d nr nn np kd g) : ∃ S', Tr_copyFrom t o S = some S' ∧ px_CT S' t d nr nn np kd g ∧ (∀ t', (t' < t ∨ t + 3 < t') → S'.1 t' = S.1 t') ∧ S'.2 = S.2 := by
  obtain ⟨S', a1, a2, a3, a4, a5, a6, a7⟩ := px_copy t o S hto
  obtain ⟨h1, h2, h3, h4, h5, h6, h7, h8, h9⟩ := h
  refine ⟨S', a1, ⟨?_, ?_, ?_, ?_, ?_, ?_, ?_, ?_, ?_⟩, a6, a7⟩
  · rw [a2 3 (by omega) (by omega)]; exact h1
  · rw [a2 4 (by omega) (by omega)]; exact h2
  · rw [a2 5 (by omega) (by omega)]; exact h3
  · rw [a2 6 (by omega) (by omega)]; exact h4
  · rw [a2 7 (by omega) (by omega)]; exact h5
  · rw [a2 8 (by omega) (by omega)]; exact h6
  · intro r hr
    rw [a3 r (by omega)]; exact h7 r hr
  · intro r hr
    rw [a4 (r * 2) (by omega), a4 (r * 2 + 1) (by omega)]; exact h8 r hr
  · intro p hp
    rw [a5 (p * 5) (by omega), a5 (p * 5 + 1) (by omega), a5 (p * 5 + 2) (by omega), a5 (p * 5 + 3) (by omega), a5 (p * 5 + 4) (by omega)]; exact h9 p hp
def px_Tx (C M : gm_M) : Prop := ∃ (n : Nat) (tx : Nat → Nat), n ≤ 240 ∧ C.1 2 1 = nI n ∧ M.1 0 9 = nI n ∧ ∀ i, i < n → tx i < 256 ∧ C.1 3 i = nI (tx i) ∧ M.1 3 i = nI (tx i)
def px_Fl (C M : gm_M) : Prop := C.1 0 8 = M.1 0 10
def px_Sd (C M : gm_M) : Prop := ∃ sd : Nat, sd < 2 ^ 31 ∧ C.2 0 7 = lN sd ∧ M.1 0 7 = nI sd
def px_Un (C M : gm_M) (d nr nn np : Nat) (kd : Nat → Nat) : Prop := ∃ (u w : Nat) (pg : Nat → Nat → Nat), u ≤ 16 ∧ w < 16 ∧ C.1 22 1 = nI w ∧ C.1 22 2 = nI u ∧ M.1 0 27 = nI u ∧ ∀ i, i < u → px_V1 d nr nn (pg i) ∧ px_CT C (24 + 4 * ((w + 17 + i - u) % 16)) d nr nn np kd (pg i) ∧ ∀ k, k < 42 → M.1 10 (42 * i + k) = nI (pg i k)
def px_Im (C M : gm_M) (d nr nn np : Nat) (kd : Nat → Nat) : Prop := ∀ i, i < 2 → ∃ b : Bool, C.1 (96 + 5 * i) 1 = nI b.toNat ∧ M.1 16 i = nI b.toNat ∧ (b = true → ∃ (sd : Nat) (g : Nat → Nat), sd < 2 ^ 31 ∧ C.2 (96 + 5 * i) 2 = lN sd ∧ M.1 15 (43 * i + 42) = nI sd ∧ px_V1 d nr nn g ∧ px_CT C (96 + 5 * i + 1) d nr nn np kd g ∧ ∀ k, k < 42 → M.1 15 (43 * i + k) = nI (g k))
def px_Bo (C M : gm_M) (d : Nat) : Prop := ∃ (b : Nat) (bn : Nat → Nat) (bs : Nat → Bool), b ≤ 15 ∧ C.1 92 2 = nI b ∧ M.1 0 32 = nI b ∧ ∀ i, i < b → bn i < px_num d ∧ C.1 93 i = nI (bn i) ∧ M.1 13 i = nI (bn i) ∧ C.1 94 i = nI (bs i).toNat ∧ M.1 14 i = nI (bs i).toNat
theorem px_Tx_k {C M C' M' : gm_M} (h : px_Tx C M) (c2 : C'.1 2 = C.1 2) (c3 : C'.1 3 = C.1 3) (m0 : M'.1 0 9 = M.1 0 9) (m3 : M'.1 3 = M.1 3) : px_Tx C' M' := by
  unfold px_Tx; rw [c2, c3, m0, m3]; exact h
theorem px_Fl_k {C M C' M' : gm_M} (h : px_Fl C M) (c : C'.1 0 8 = C.1 0 8) (m : M'.1 0 10 = M.1 0 10) : px_Fl C' M' := by
  unfold px_Fl; rw [c, m]; exact h
theorem px_Sd_k {C M C' M' : gm_M} (h : px_Sd C M) (c : C'.2 0 7 = C.2 0 7) (m : M'.1 0 7 = M.1 0 7) : px_Sd C' M' := by
  unfold px_Sd; rw [c, m]; exact h
theorem px_Un_k {C M C' M' : gm_M} {d nr nn np : Nat} {kd : Nat → Nat} (h : px_Un C M d nr nn np kd) (c : ∀ t, 22 ≤ t → t < 88 → C'.1 t = C.1 t) (m : M'.1 0 27 = M.1 0 27) (m10 : M'.1 10 = M.1 10) : px_Un C' M' d nr nn np kd := by
  obtain ⟨u, w, pg, h1, h2, h3, h4, h5, h6⟩ := h
  refine ⟨u, w, pg, h1, h2, ?_, ?_, ?_, fun i hi => ?_⟩
  · rw [c 22 (by omega) (by omega)]; exact h3
  · rw [c 22 (by omega) (by omega)]; exact h4
  · rw [m]; exact h5
  · obtain ⟨a1, a2, a3⟩ := h6 i hi
    have hm : (w + 17 + i - u) % 16 < 16 := Nat.mod_lt _ (by decide)
    refine ⟨a1, px_CT_k a2 (c _ (by omega) (by omega)) (c _ (by omega) (by omega)) (c _ (by omega) (by omega)) (c _ (by omega) (by omega)), fun k hk => ?_⟩
    rw [m10]; exact a3 k hk
theorem px_Im_k {C M C' M' : gm_M} {d nr nn np : Nat} {kd : Nat → Nat} (h : px_Im C M d nr nn np kd) (c : ∀ t, 96 ≤ t → t < 106 → C'.1 t = C.1 t) (c2 : ∀ t, 96 ≤ t → t < 106 → C'.2 t = C.2 t) (m15 : M'.1 15 = M.1 15) (m16 : M'.1 16 = M.1 16) : px_Im C' M' d nr nn np kd := by
  intro i hi
  obtain ⟨b, h1, h2, h3⟩ := h i hi
  refine ⟨b, ?_, ?_, fun hb => ?_⟩
  · rw [c _ (by omega) (by omega)]; exact h1
  · rw [m16]; exact h2
  · obtain ⟨sd, g, a1, a2, a3, a4, a5, a6⟩ := h3 hb
    refine ⟨sd, g, a1, ?_, ?_, a4, px_CT_k a5 (c _ (by omega) (by omega)) (c _ (by omega) (by omega)) (c _ (by omega) (by omega)) (c _ (by omega) (by omega)), ?_⟩
    · rw [c2 _ (by omega) (by omega)]; exact a2
    · rw [m15]; exact a3
    · intro k hk; rw [m15]; exact a6 k hk
theorem px_Bo_k {C M C' M' : gm_M} {d : Nat} (h : px_Bo C M d) (c92 : C'.1 92 = C.1 92) (c93 : C'.1 93 = C.1 93) (c94 : C'.1 94 = C.1 94) (m : M'.1 0 32 = M.1 0 32) (m13 : M'.1 13 = M.1 13) (m14 : M'.1 14 = M.1 14) : px_Bo C' M' d := by
  unfold px_Bo; rw [c92, c93, c94, m, m13, m14]; exact h
theorem px_TB_k {C C' : gm_M} {d nr : Nat} {g : Nat → Nat} (h : px_TB C d nr g) (c12 : C'.1 12 = C.1 12) (c18 : C'.1 18 = C.1 18) (cj : ∀ t, 14 ≤ t → t < 20 → C'.2 t = C.2 t) (hnr : nr ≤ 4) : px_TB C' d nr g := by
  obtain ⟨a1, a2, a3, a4, a5, a6, a7, a8⟩ := h
  refine ⟨by rw [c12]; exact a1, by rw [c12]; exact a2, by rw [c12]; exact a3, by rw [c12]; exact a4, by rw [c12]; exact a5, by rw [c12]; exact a6, fun r hr => ?_, by rw [cj 19 (by omega) (by omega)]; exact a8⟩
  rw [c18, cj (14 + r) (by omega) (by omega)]
  exact a7 r hr
