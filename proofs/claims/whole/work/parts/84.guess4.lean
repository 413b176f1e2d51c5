def px_gb (k a : Nat) : Nat := if k = 2 then 4 else if k = 3 then a - 1 else 0
def px_la (k : Nat) : Nat := if k = 3 then 2 else 0
def px_ga (k : Nat) : Nat := if k = 0 then 36 else if k = 1 then 2 else if k = 2 then 9 else if k = 3 then 12 else 3
def px_bs (k a : Nat) : Nat := if k = 0 then a else if k = 1 then 37 + a else if k = 2 then 40 + 5 * a else if k = 3 then 89 + a * (a - 1) / 2 else 167 + a
def px_kb (k : Nat) : Nat := if k = 0 then 0 else if k = 1 then 37 else if k = 2 then 40 else if k = 3 then 90 else if k = 4 then 167 else 171
theorem px_bs_f : ∀ (k : Fin 5) (a : Fin 37) (b : Fin 12), px_tb k.1 a.1 b.1 = true → px_rc (px_bs k.1 a.1 + b.1) = px_code k.1 a.1 b.1 ∧ px_bs k.1 a.1 + b.1 < 171 := by decide +kernel
theorem px_bs_n : ∀ (k : Fin 5) (a : Fin 37), px_la k.1 ≤ a.1 → a.1 ≤ px_ga k.1 → px_bs k.1 a.1 + px_gb k.1 a.1 + 1 = px_bs k.1 (a.1 + 1) := by decide +kernel
theorem px_bs_b : ∀ k : Fin 5, px_bs k.1 (px_la k.1) = px_kb k.1 ∧ px_bs k.1 (px_ga k.1 + 1) = px_kb (k.1 + 1) := by decide +kernel
section PG4
variable {C M : gm_M} {d nr nn np : Nat} {kd g : Nat → Nat} {fl : Nat}
theorem px_gBk {k a : Nat} (hk : k < 5) (h1 : px_la k ≤ a) : Ru_greatestB (nI k) (nI a) = some (nI (px_gb k a)) := by
  unfold Ru_greatestB px_gb
  rcases (show k = 0 ∨ k = 1 ∨ k = 2 ∨ k = 3 ∨ k = 4 by omega) with rfl | rfl | rfl | rfl | rfl
  · rfl
  · rfl
  · rfl
  · have h1 : 2 ≤ a := h1
    rw [if_neg (show ¬ nI 3 = (2 : Int32) by decide), if_pos (show nI 3 = (3 : Int32) from rfl), if_neg (by omega), if_pos rfl, show nI a - 1 = nI (a - 1) from pk_sub (b := 1) (by omega)]
  · rfl
theorem px_gAk {k : Nat} (hk : k < 5) : Ru_greatestA (nI k) = some (nI (px_ga k)) := by
  rcases (show k = 0 ∨ k = 1 ∨ k = 2 ∨ k = 3 ∨ k = 4 by omega) with rfl | rfl | rfl | rfl | rfl <;> rfl
theorem px_lAk {k : Nat} (hk : k < 5) : Ru_leastA (nI k) = some (nI (px_la k)) := by
  rcases (show k = 0 ∨ k = 1 ∨ k = 2 ∨ k = 3 ∨ k = 4 by omega) with rfl | rfl | rfl | rfl | rfl <;> rfl
def px_Gn (C0 C : gm_M) (c : Nat) : Prop := C.1 88 2 = nI c ∧ (∀ i, i < c → C.1 89 i = nI (px_rc i)) ∧ (∀ t, t ≠ 88 → t ≠ 89 → C.1 t = C0.1 t) ∧ (∀ k, k ≠ 2 → C.1 88 k = C0.1 88 k) ∧ C.2 = C0.2
theorem px_gadd_L {k a : Nat} (C0 : gm_M) (hk : k < 5) (h1 : px_la k ≤ a) (h2 : a ≤ px_ga k) : ∀ (m b : Nat) (C : gm_M), px_Gn C0 C (px_bs k a + b) → b ≤ px_gb k a + 1 → px_gb k a + 1 - b < m → ∃ C', Gs_addRules_L2 (nI k) (nI a) m (nI b) C = some C' ∧ px_Gn C0 C' (px_bs k (a + 1)) := by
  have ha : a ≤ 36 := by unfold px_ga at h2; split at h2 <;> (try split at h2) <;> (try split at h2) <;> (try split at h2) <;> omega
  have hgb : px_gb k a ≤ 35 := by unfold px_gb; split <;> (try split) <;> omega
  have hn := px_bs_n ⟨k, hk⟩ ⟨a, by omega⟩ h1 h2
  dsimp only at hn
  intro m
  induction m with
  | zero => intro b C _ _ q; omega
  | succ m ih =>
    intro b C hG hb hm
    have e1 : Gs_addRules_L2 (nI k) (nI a) (m + 1) (nI b) C = Gs_addRules_L2_b (nI k) (nI a) (Gs_addRules_L2 (nI k) (nI a) m) (nI b) C := rfl
    rw [e1]
    unfold Gs_addRules_L2_b
    rw [px_gBk hk h1]
    simp only [px_1, px_lt]
    by_cases c : px_gb k a < b
    · rw [if_pos ((nI_ltI (by omega) (by omega)).mpr c)]
      refine ⟨C, rfl, ?_⟩
      rw [← hn, show px_bs k a + px_gb k a + 1 = px_bs k a + b by omega]
      exact hG
    · rw [if_neg (fun q => c ((nI_ltI (by omega) (by omega)).mp q))]
      have ht : px_tb k a b = true := by
        apply px_tb_t
        unfold px_told
        unfold px_ga at h2
        unfold px_la at h1
        unfold px_gb at c
        rcases (show k = 0 ∨ k = 1 ∨ k = 2 ∨ k = 3 ∨ k = 4 by omega) with rfl | rfl | rfl | rfl | rfl <;> simp at h1 h2 c <;> omega
      have hb12 : b < 12 := by have := (px_told_b (px_tb_o ht)).2.2; omega
      obtain ⟨f1, f2⟩ := px_bs_f ⟨k, hk⟩ ⟨a, by omega⟩ ⟨b, hb12⟩ ht
      dsimp only at f1 f2
      obtain ⟨g1, g2, g3, g4, g5⟩ := id hG
      rw [g1, if_neg (show ¬ (171 : Int32) ≤ nI (px_bs k a + b) from fun q => by have := (nI_leI (a := 171) (by omega) (by omega)).mp q; omega), px_Ruc]
      simp only [px_1]
      have e2 : (gm_ui C 89 (px_bs k a + b) (nI (px_code k a b))).1 88 2 = nI (px_bs k a + b) := by rw [px_ui0 _ _ _ _ _ (by omega)]; exact g1
      rw [px_ck _ (by omega) (by decide), nI_clamp (by omega), e2, show nI (px_bs k a + b) + 1 = nI (px_bs k a + (b + 1)) from nI_1 _, show nI b + 1 = nI (b + 1) from nI_1 b]
      simp only [px_1]
      refine ih (b + 1) _ ⟨?_, ?_, ?_, ?_, g5⟩ (by omega) (by omega)
      · rw [px_ui, if_pos rfl, if_pos rfl]
      · intro i hi
        rw [px_ui0 _ _ _ _ _ (by omega), px_ui, if_pos rfl]
        by_cases ei : i = px_bs k a + b
        · rw [if_pos ei, ei, f1]
        · rw [if_neg ei]; exact g2 i (by omega)
      · intro t t1 t2
        rw [px_ui0 _ _ _ _ _ t1, px_ui0 _ _ _ _ _ t2]; exact g3 t t1 t2
      · intro q hq
        rw [px_ui, if_pos rfl, if_neg hq, px_ui0 _ _ _ _ _ (by omega)]; exact g4 q hq
theorem px_forg_L {k : Nat} (C0 : gm_M) (hf : 1000 ≤ fl) (hk : k < 5) : ∀ (m a : Nat) (C : gm_M), px_Gn C0 C (px_bs k a) → px_la k ≤ a → a ≤ px_ga k + 1 → px_ga k + 1 - a < m → ∃ C', Gs_forget_L40 fl (nI k) m (nI a) C = some C' ∧ px_Gn C0 C' (px_kb (k + 1)) := by
  have hga : px_ga k ≤ 36 := by unfold px_ga; split <;> (try split) <;> (try split) <;> (try split) <;> omega
  have hb := (px_bs_b ⟨k, hk⟩).2
  dsimp only at hb
  intro m
  induction m with
  | zero => intro a C _ _ _ q; omega
  | succ m ih =>
    intro a C hG h1 h2 hm
    have e1 : Gs_forget_L40 fl (nI k) (m + 1) (nI a) C = Gs_forget_L40_b fl (nI k) (Gs_forget_L40 fl (nI k) m) (nI a) C := rfl
    rw [e1]
    unfold Gs_forget_L40_b
    rw [px_gAk hk]
    simp only [px_1]
    by_cases c : px_ga k < a
    · rw [if_pos ((nI_ltI (by omega) (by omega)).mpr c)]
      refine ⟨C, rfl, ?_⟩
      rw [← hb, show px_ga k + 1 = a by omega]
      exact hG
    · rw [if_neg (fun q => c ((nI_ltI (by omega) (by omega)).mp q))]
      have hgb : px_gb k a ≤ 35 := by unfold px_gb; split <;> (try split) <;> omega
      obtain ⟨C1, a1, a2⟩ := px_gadd_L C0 hk h1 (show a ≤ px_ga k by omega) fl 0 C hG (by omega) (by omega)
      have a1 : Gs_addRules_L2 (nI k) (nI a) fl 0 C = some C1 := a1
      unfold Gs_addRules
      rw [a1]
      simp only [px_1, px_lt]
      rw [show nI a + 1 = nI (a + 1) from nI_1 a]
      exact ih (a + 1) C1 a2 (by omega) (by omega) (by omega)
theorem px_forg2_L (C0 : gm_M) (hf : 1000 ≤ fl) : ∀ (m k : Nat) (C : gm_M), px_Gn C0 C (px_kb k) → k ≤ 5 → 5 - k < m → ∃ C', Gs_forget_L30 fl m (nI k) C = some C' ∧ px_Gn C0 C' 171 := by
  intro m
  induction m with
  | zero => intro k C _ _ q; omega
  | succ m ih =>
    intro k C hG h2 hm
    have e1 : Gs_forget_L30 fl (m + 1) (nI k) C = Gs_forget_L30_b fl (Gs_forget_L30 fl m) (nI k) C := rfl
    rw [e1]
    unfold Gs_forget_L30_b
    by_cases c : 5 ≤ k
    · rw [if_pos (show (5 : Int32) ≤ nI k from (nI_leI (a := 5) (by omega) (by omega)).mpr c)]
      have : k = 5 := by omega
      subst this
      exact ⟨C, rfl, hG⟩
    · rw [if_neg (show ¬ (5 : Int32) ≤ nI k from fun q => c ((nI_leI (a := 5) (by omega) (by omega)).mp q)), px_lAk (by omega)]
      have hga : px_ga k ≤ 36 := by unfold px_ga; split <;> (try split) <;> (try split) <;> (try split) <;> omega
      have hb := (px_bs_b ⟨k, by omega⟩).1
      dsimp only at hb
      have hlg : px_la k ≤ px_ga k + 1 := by unfold px_la px_ga; rcases (show k = 0 ∨ k = 1 ∨ k = 2 ∨ k = 3 ∨ k = 4 by omega) with rfl | rfl | rfl | rfl | rfl <;> simp
      obtain ⟨C1, a1, a2⟩ := px_forg_L (fl := fl) C0 hf (show k < 5 by omega) fl (px_la k) C (by rw [hb]; exact hG) (Nat.le_refl _) hlg (by omega)
      simp only [px_1]
      rw [a1]
      simp only [px_1, px_lt]
      rw [show nI k + 1 = nI (k + 1) from nI_1 k]
      exact ih (k + 1) C1 a2 (by omega) (by omega)
theorem px_cl_00 {sn : Nat → Nat} {ss : Nat → Bool} (hd : 0 < d) : px_cl d 0 sn ss = List.range 171 := by
  unfold px_cl
  rw [if_neg (by omega)]
  exact List.filter_eq_self.mpr (fun _ _ => rfl)
theorem px_forget (hf : 1000 ≤ fl) (hd : d ≤ 4) : ∃ C', Gs_forget fl (nI d) C = some C' ∧ (∀ t, t ≠ 88 → t ≠ 89 → C'.1 t = C.1 t) ∧ C'.2 = C.2 ∧ (∀ M : gm_M, M.1 0 29 = nI 0 → px_Gu C' M d) := by
  unfold Gs_forget
  simp only [px_lt]
  have e4 : (gm_ui (gm_ui (gm_ui (gm_ui C 88 4 (nI d)) 88 3 0) 88 2 0) 88 6 0).1 88 4 = nI d := by rw [px_ui, if_pos rfl, if_neg (by omega), px_ui, if_pos rfl, if_neg (by omega), px_ui, if_pos rfl, if_neg (by omega), px_ui, if_pos rfl, if_pos rfl]
  have e3 : (gm_ui (gm_ui (gm_ui (gm_ui C 88 4 (nI d)) 88 3 0) 88 2 0) 88 6 0).1 88 3 = nI 0 := by rw [px_ui, if_pos rfl, if_neg (by omega), px_ui, if_pos rfl, if_neg (by omega), px_ui, if_pos rfl, if_pos rfl]; rfl
  have e2 : (gm_ui (gm_ui (gm_ui (gm_ui C 88 4 (nI d)) 88 3 0) 88 2 0) 88 6 0).1 88 2 = nI 0 := by rw [px_ui, if_pos rfl, if_neg (by omega), px_ui, if_pos rfl, if_pos rfl]; rfl
  have e6 : (gm_ui (gm_ui (gm_ui (gm_ui C 88 4 (nI d)) 88 3 0) 88 2 0) 88 6 0).1 88 6 = nI 0 := by rw [px_ui, if_pos rfl, if_pos rfl]; rfl
  have et : ∀ t, t ≠ 88 → (gm_ui (gm_ui (gm_ui (gm_ui C 88 4 (nI d)) 88 3 0) 88 2 0) 88 6 0).1 t = C.1 t := fun t ht => by rw [px_ui0 _ _ _ _ _ ht, px_ui0 _ _ _ _ _ ht, px_ui0 _ _ _ _ _ ht, px_ui0 _ _ _ _ _ ht]
  have ej : (gm_ui (gm_ui (gm_ui (gm_ui C 88 4 (nI d)) 88 3 0) 88 2 0) 88 6 0).2 = C.2 := rfl
  generalize gm_ui (gm_ui (gm_ui (gm_ui C 88 4 (nI d)) 88 3 0) 88 2 0) 88 6 0 = S at *
  rw [e4]
  by_cases c : d = 0
  · rw [if_pos (by rw [c]; rfl)]
    refine ⟨S, rfl, fun t t1 _ => et t t1, ej, fun M hM => ⟨0, fun _ => 0, fun _ => false, by omega, e3, hM, e4, fun i hi => by omega, ?_, ?_, Or.inl e6⟩⟩
    · subst c
      rw [px_cl_0]; exact e2
    · subst c
      rw [px_cl_0]
      intro i x hx
      exact nomatch hx
  · rw [if_neg (show ¬ nI d = (0 : Int32) from fun q => c ((nI_eq (b := 0) (by omega) (by omega)).mp q))]
    obtain ⟨C1, a1, a2, a3, a4, a5, a6⟩ := px_forg2_L (fl := fl) S hf fl 0 S ⟨e2, fun i hi => by unfold px_kb at hi; simp at hi, fun _ _ _ => rfl, fun _ _ => rfl, rfl⟩ (by omega) (by omega)
    have a1 : Gs_forget_L30 fl fl 0 S = some C1 := a1
    rw [a1]
    refine ⟨C1, rfl, fun t t1 t2 => by rw [a4 t t1 t2, et t t1], by rw [a6, ej], fun M hM => ⟨0, fun _ => 0, fun _ => false, by omega, by rw [a5 3 (by omega)]; exact e3, hM, by rw [a5 4 (by omega)]; exact e4, fun i hi => by omega, ?_, ?_, Or.inl (by rw [a5 6 (by omega)]; exact e6)⟩⟩
    · rw [px_cl_00 (by omega), List.length_range]; exact a2
    · rw [px_cl_00 (by omega)]
      intro i x hx
      have hi : i < 171 := by
        rcases Nat.lt_or_ge i 171 with q | q
        · exact q
        · rw [List.getElem?_eq_none (by rw [List.length_range]; exact q)] at hx; exact nomatch hx
      rw [List.getElem?_range hi] at hx
      rw [← Option.some.inj hx]
      exact a3 i hi
end PG4
