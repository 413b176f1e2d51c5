theorem wd_all (cf : gm_C) {h0 : Nat} {w : va_W} {H : Heap} {A : Nat → Prop} (h : sh_10 cf h0 w) (hP : va_P cf.1 gm_cls w H) (hD : va_D A w) : ∃ ad : Nat → Nat, ad 0 = h0 ∧ va_P cf.1 gm_cls (gm_W cf ad gm_sC 106 gm_C0) H ∧ va_D A (gm_W cf ad gm_sC 106 gm_C0) := by
  obtain ⟨q1, q2, q3, q4, q5, q6, im, i1, i2, w1, w2, w3, w4, w5, w6, w7, w8, f, ⟨qR, rfl, rfl⟩, ⟨qT, rfl, rfl⟩, ⟨qB, fB, rfl, hB, rfl⟩, ⟨r, fP, qq, hPq, rfl⟩, ⟨qG, rfl, rfl⟩, ⟨qK, rfl, rfl⟩, ⟨qI, rfl, rfl⟩, ⟨qJ, rfl, rfl⟩, f0, f1, rfl⟩ := h
  have e := wd_eq cf h0 r im qR qT qB qG qK qI qJ q4 qq _ rfl
  have a14 : ∀ j, j < 4 → fB j = some (gm_ad h0 r im qR qT qB qG qK qI qJ q4 qq (14 + 1 * j)) := fun j hj => by
    rw [hB j hj]
    rcases (show j = 0 ∨ j = 1 ∨ j = 2 ∨ j = 3 by omega) with rfl | rfl | rfl | rfl <;> rfl
  have a24 : ∀ j, j < 16 → fP j = some (gm_ad h0 r im qR qT qB qG qK qI qJ q4 qq (24 + 4 * j)) := fun j hj => by
    rw [hPq j hj]
    unfold gm_ad
    rw [if_neg (by omega), if_neg (by omega), if_neg (by omega), if_neg (by omega), if_neg (by omega), if_pos (by omega), show (24 + 4 * j - 24) / 4 = j by omega, show (24 + 4 * j - 24) % 4 = 0 by omega]
  have a96 : ∀ j, j < 2 → f j = some (gm_ad h0 r im qR qT qB qG qK qI qJ q4 qq (96 + 5 * j)) := fun j hj => by
    rcases (show j = 0 ∨ j = 1 by omega) with rfl | rfl
    · rw [f0]; rfl
    · rw [f1]; rfl
  have hs : gm_sl (((h0, .inr (10, [.ref (qR 0), .ref (qT 0), .ref (qB 0), .ref q4, .ref (qG 0), .ref (qK 0), .ref im, .long 0, .int (-1)])) :: (wd_5 cf qR ++ wd_9 cf qT ++ wd_3 cf qB fB ++ wd_4 cf q4 r fP qq 16 ++ wd_1 cf qG ++ wd_0 cf qK)) ++ (im, .inl (cf.2 6, 2, .inr (.inr (.inr (.inr f))))) :: (wd_2 cf qI ++ wd_2 cf qJ)) (gm_W cf (gm_ad h0 r im qR qT qB qG qK qI qJ q4 qq) gm_sC 106 gm_C0) := by
    rw [← e]
    refine gm_sl_a (gm_sl_c (gm_se_r _) (gm_sl_a (gm_sl_a (gm_sl_a (gm_sl_a (gm_sl_a (gm_sl_r _) (gm_sl_r _)) ?_) ?_) (gm_sl_r _)) (gm_sl_r _))) (gm_sl_c (gm_se_f a96) (gm_sl_r _))
    · exact gm_sl_c (gm_se_r _) (gm_sl_c (gm_se_f a14) (gm_sl_r _))
    · exact gm_sl_c (gm_se_r _) (gm_sl_c (gm_se_f a24) (gm_sl_r _))
  exact ⟨_, rfl, gm_sl_P hs hP, gm_sl_D hs hD⟩
set_option maxHeartbeats 4000000 in
set_option maxRecDepth 100000 in
theorem wd_mod (cf : gm_C) (q : Nat → Nat) : wd_11 cf q = gm_W cf q gm_sM 17 gm_M0 := rfl
theorem px_start : px_R gm_C0 gm_M0 := by
  refine ⟨0, 0, 0, 0, fun _ => 0, fun _ => 0, ⟨Or.inl rfl, by omega, by omega, by omega, fun _ => ⟨rfl, rfl, rfl⟩, fun p hp => absurd hp (by omega)⟩, ⟨Nat.zero_le _, fun r hr => absurd hr (by omega), fun r hr => absurd hr (by omega), fun _ _ _ => Nat.zero_le _, Nat.zero_le _, fun _ _ => Nat.le_refl _⟩, ⟨rfl, rfl, rfl, rfl, rfl, rfl, fun r hr => absurd hr (by omega), fun r hr => absurd hr (by omega), fun r hr => absurd hr (by omega)⟩, ⟨rfl, rfl, rfl, rfl, rfl, fun j _ => rfl, fun p hp => absurd hp (by omega)⟩, ⟨rfl, rfl, rfl, rfl, rfl, rfl, fun r hr => absurd hr (by omega), fun w j hw => absurd hw (by unfold px_words px_num; simp)⟩, ⟨0, fun _ => 0, by omega, rfl, rfl, fun i hi => absurd hi (by omega)⟩, rfl, ⟨0, by decide, rfl, rfl⟩, ⟨0, 0, fun _ _ => 0, by omega, by omega, rfl, rfl, rfl, fun i hi => absurd hi (by omega)⟩, ?_, ?_, ⟨0, fun _ => 0, fun _ => false, by omega, rfl, rfl, fun i hi => absurd hi (by omega)⟩⟩
  · intro i hi
    refine ⟨false, ?_, ?_, fun q => nomatch q⟩
    · rcases (show i = 0 ∨ i = 1 by omega) with rfl | rfl <;> rfl
    · rcases (show i = 0 ∨ i = 1 by omega) with rfl | rfl <;> rfl
  · refine ⟨0, fun _ => 0, fun _ => false, by omega, rfl, rfl, rfl, fun i hi => absurd hi (by omega), ?_, ?_, Or.inl rfl⟩
    · rw [px_cl_0]; rfl
    · rw [px_cl_0]
      intro i x hx
      exact nomatch hx
