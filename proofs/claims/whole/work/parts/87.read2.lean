section PR2
variable {C M : gm_M} {n : Nat} {tx : Nat → Nat} {fl : Nat}
theorem px_in57 {t : Nat} (h : t < 256) : Mo_in (nI t).toInt64 48 57 = some (nI (decide (48 ≤ t ∧ t ≤ 57)).toNat) := px_inN (b := 48) (c := 57) (by omega) (by decide) (by decide)
theorem px_mnum_L {s : Nat} (h240 : n ≤ 240) (h256 : ∀ i, i < n → tx i < 256) : ∀ (m p w : Nat) (M : gm_M), px_TM M n tx → M.1 0 11 = nI p → M.1 0 12 = nI w → s ≤ p → p ≤ n → w ≤ 1100000 → (p - s ≤ 4 → w = px_vl tx s (p - s)) → (∀ i, s ≤ i → i < p → 48 ≤ tx i ∧ tx i ≤ 57) → n - p < m → ∃ M' w', Mo_takeNumber_L42 m M = some M' ∧ px_FM M M' ∧ M'.1 0 11 = nI (px_dr tx (n - p) p) ∧ M'.1 0 12 = nI w' ∧ w' ≤ 1100000 ∧ (px_dr tx (n - p) p - s ≤ 4 → w' = px_vl tx s (px_dr tx (n - p) p - s)) ∧ (∀ k, k ≠ 11 → k ≠ 12 → M'.1 0 k = M.1 0 k) := by
  intro m
  induction m with
  | zero => intro p w M _ _ _ _ _ _ _ _ q; omega
  | succ m ih =>
    intro p w M h hp hw hsp hpn hwb hwv hdg hm
    have e1 : Mo_takeNumber_L42 (m + 1) M = Mo_takeNumber_L42_b (Mo_takeNumber_L42 m) M := rfl
    rw [e1]
    unfold Mo_takeNumber_L42_b
    rw [hp, h.1, hw]
    by_cases c : p < n
    · have q1 := h256 p c
      have q2 := h.2 p c
      rw [if_neg (fun q => by have := (nI_leI (by omega) (by omega)).mp q; omega), px_ck _ (by omega) (by decide), px_ck _ (by omega) (by decide), nI_clamp (by omega), q2, px_in57 q1]
      simp only [px_1, px_lt]
      have e2 : px_dr tx (n - p) p = if 48 ≤ tx p ∧ tx p ≤ 57 then px_dr tx (n - (p + 1)) (p + 1) else p := by
        rw [show n - p = (n - (p + 1)) + 1 by omega]; rfl
      rw [e2]
      by_cases c2 : 48 ≤ tx p ∧ tx p ≤ 57
      · rw [if_pos c2, decide_eq_true c2]
        simp only [Bool.toNat_true, px_e1, if_false]
        have hdg' : ∀ i, s ≤ i → i < p + 1 → 48 ≤ tx i ∧ tx i ≤ 57 := fun i i1 i2 => by
          by_cases ei : i = p
          · rw [ei]; exact c2
          · exact hdg i i1 (by omega)
        have step : ∀ w1, w1 ≤ 1100000 → (p + 1 - s ≤ 4 → w1 = px_vl tx s (p + 1 - s)) → ∃ M' w', Mo_takeNumber_L42 m (gm_ui (gm_ui M 0 12 (nI w1)) 0 11 ((gm_ui M 0 12 (nI w1)).1 0 11 + 1)) = some M' ∧ px_FM M M' ∧ M'.1 0 11 = nI (px_dr tx (n - (p + 1)) (p + 1)) ∧ M'.1 0 12 = nI w' ∧ w' ≤ 1100000 ∧ (px_dr tx (n - (p + 1)) (p + 1) - s ≤ 4 → w' = px_vl tx s (px_dr tx (n - (p + 1)) (p + 1) - s)) ∧ (∀ k, k ≠ 11 → k ≠ 12 → M'.1 0 k = M.1 0 k) := by
          intro w1 w1b w1v
          have e11 : (gm_ui M 0 12 (nI w1)).1 0 11 + 1 = nI (p + 1) := by rw [px_ui, if_pos rfl, if_neg (by omega), hp]; exact nI_1 p
          rw [e11]
          have f1 : px_FM M (gm_ui (gm_ui M 0 12 (nI w1)) 0 11 (nI (p + 1))) := px_FM_u (px_FM_u (px_FM_r M) (by omega)) (by omega)
          obtain ⟨M', w', a1, a2, a3, a4, a5, a6, a7⟩ := ih (p + 1) w1 (gm_ui (gm_ui M 0 12 (nI w1)) 0 11 (nI (p + 1))) (px_TM_F h f1) (by rw [px_ui, if_pos rfl, if_pos rfl]) (by rw [px_ui, if_pos rfl, if_neg (by omega), px_ui, if_pos rfl, if_pos rfl]) (by omega) (by omega) w1b w1v hdg' (by omega)
          exact ⟨M', w', a1, px_FM_t f1 a2, a3, a4, a5, a6, fun k k1 k2 => by rw [a7 k k1 k2, px_ui, if_pos rfl, if_neg k1, px_ui, if_pos rfl, if_neg k2]⟩
        by_cases c3 : w ≤ 100000
        · rw [if_pos (show nI w ≤ (100000 : Int32) from (nI_leI (b := 100000) (by omega) (by omega)).mpr c3)]
          simp only [px_1]
          rw [show (10 : Int32) * nI w = nI (10 * w) from pk_mul 10 w, nI_add, show nI (10 * w + tx p) - 48 = nI (10 * w + tx p - 48) from pk_sub (b := 48) (by omega)]
          refine step (10 * w + tx p - 48) (by omega) (fun q => ?_)
          rw [show p + 1 - s = (p - s) + 1 by omega]
          simp only [px_vl]
          rw [← hwv (by omega), show s + (p - s) = p by omega]
          omega
        · rw [if_neg (show ¬ nI w ≤ (100000 : Int32) from fun q => c3 ((nI_leI (b := 100000) (by omega) (by omega)).mp q))]
          simp only [px_1]
          refine step w hwb (fun q => ?_)
          exfalso
          have hv := px_vl_b hdg (p - s) (by omega)
          have hv4 : (10 : Nat) ^ (p - s) ≤ 10 ^ 4 := Nat.pow_le_pow_right (by decide) (by omega)
          rw [← hwv (by omega)] at hv
          omega
      · rw [if_neg c2, decide_eq_false c2]
        simp only [Bool.toNat_false, px_e0, if_true]
        exact ⟨M, w, rfl, px_FM_r M, hp, hw, hwb, hwv, fun _ _ _ => rfl⟩
    · have e2 : px_dr tx (n - p) p = p := by rw [show n - p = 0 by omega]; rfl
      rw [e2, if_pos ((nI_leI (by omega) (by omega)).mpr (by omega))]
      exact ⟨M, w, rfl, px_FM_r M, hp, hw, hwb, hwv, fun _ _ _ => rfl⟩
theorem px_mrn {p lo hi : Nat} (hf : 1000 ≤ fl) (h240 : n ≤ 240) (h256 : ∀ i, i < n → tx i < 256) (h : px_TM M n tx) (hp : M.1 0 11 = nI p) (hpn : p ≤ n) (hlo : lo < 2 ^ 31) (hhi : hi < 2 ^ 31) : ∃ s q f M', s = px_sk tx (n - p) p ∧ q = px_dr tx (n - s) s ∧ f = px_rf tx s q lo hi ∧ Mo_takeNumber fl (nI lo) (nI hi) M = some (nI f, M') ∧ px_FM M M' ∧ (f = 0 → M'.1 0 11 = nI q ∧ M'.1 0 12 = nI (px_vl tx s (q - s)) ∧ M'.1 0 13 = nI s ∧ M'.1 0 10 = M.1 0 10) ∧ (f ≠ 0 → M'.1 0 10 = nI s) := by
  obtain ⟨M1, a1, a2, a3, a4⟩ := px_here hf h240 h256 h hp hpn
  have hb1 := px_sk_b tx (n - p) p
  have h1 := px_TM_F h a2
  generalize hs : px_sk tx (n - p) p = s at *
  unfold Mo_takeNumber
  rw [a1, px_2]
  by_cases cd : s < n ∧ 48 ≤ tx s ∧ tx s ≤ 57
  · obtain ⟨c1, c2⟩ := cd
    rw [if_pos c1, px_in57 (h256 s c1), decide_eq_true c2]
    simp only [px_1, px_lt, Bool.toNat_true, px_e1, if_false]
    rw [a3]
    have f1 : px_FM M (gm_ui (gm_ui M1 0 13 (nI s)) 0 12 0) := px_FM_u (px_FM_u a2 (by omega)) (by omega)
    obtain ⟨M2, w, b1, b2, b3, b4, b5, b6, b7⟩ := px_mnum_L (s := s) h240 h256 fl s 0 (gm_ui (gm_ui M1 0 13 (nI s)) 0 12 0) (px_TM_F h f1) (by rw [px_ui, if_pos rfl, if_neg (by omega), px_ui, if_pos rfl, if_neg (by omega)]; exact a3) (by rw [px_ui, if_pos rfl, if_pos rfl]; rfl) (by omega) (by omega) (by omega) (fun _ => by rw [Nat.sub_self]; rfl) (fun i i1 i2 => by omega) (by omega)
    have hb2 := px_dr_b tx (n - s) s
    have hq1 : s + 1 ≤ px_dr tx (n - s) s := by
      have e2 : px_dr tx (n - s) s = if 48 ≤ tx s ∧ tx s ≤ 57 then px_dr tx (n - (s + 1)) (s + 1) else s := by
        rw [show n - s = (n - (s + 1)) + 1 by omega]; rfl
      rw [e2, if_pos c2]
      exact (px_dr_b tx _ _).1
    generalize hq : px_dr tx (n - s) s = q at *
    have m13 : M2.1 0 13 = nI s := by rw [b7 13 (by omega) (by omega), px_ui, if_pos rfl, if_neg (by omega), px_ui, if_pos rfl, if_pos rfl]
    have m10 : M2.1 0 10 = M.1 0 10 := by rw [b7 10 (by omega) (by omega), px_ui, if_pos rfl, if_neg (by omega), px_ui, if_pos rfl, if_neg (by omega), a4 10 (by omega)]
    have f2 := px_FM_t f1 b2
    rw [b1]
    simp only [px_1]
    rw [b3, m13, pk_sub (show s ≤ q by omega)]
    unfold Mo_fails
    simp only [px_lt]
    have bad : ∀ f, f ≠ 0 → f = px_rf tx s q lo hi → ∃ s' q' f' M', s' = s ∧ q' = px_dr tx (n - s') s' ∧ f' = px_rf tx s' q' lo hi ∧ (gm_bp2 (some (nI f, gm_ui M2 0 10 (nI s))) fun v19 S20 => some (v19, S20)) = some (nI f', M') ∧ px_FM M M' ∧ (f' = 0 → M'.1 0 11 = nI q' ∧ M'.1 0 12 = nI (px_vl tx s' (q' - s')) ∧ M'.1 0 13 = nI s' ∧ M'.1 0 10 = M.1 0 10) ∧ (f' ≠ 0 → M'.1 0 10 = nI s') := fun f f0 ef => ⟨s, q, f, _, rfl, hq.symm, ef, rfl, px_FM_u f2 (by omega), fun z => absurd z f0, fun _ => by rw [px_ui, if_pos rfl, if_pos rfl]⟩
    by_cases k2 : 4 < q - s
    · have ef : 2 = px_rf tx s q lo hi := by unfold px_rf; rw [if_neg (by omega), if_pos k2]
      rw [if_pos (show (4 : Int32) < nI (q - s) from (nI_ltI (a := 4) (by omega) (by omega)).mpr k2)]
      exact bad 2 (by omega) ef
    · have ew := b6 (by omega)
      rw [if_neg (show ¬ (4 : Int32) < nI (q - s) from fun z => k2 ((nI_ltI (a := 4) (by omega) (by omega)).mp z)), b4, ew]
      have hw1 : px_vl tx s (q - s) ≤ 1100000 := by rw [← ew]; exact b5
      have ein : Mo_in (nI (px_vl tx s (q - s))).toInt64 (nI lo).toInt64 (nI hi).toInt64 = some (nI (decide (lo ≤ px_vl tx s (q - s) ∧ px_vl tx s (q - s) ≤ hi)).toNat) := by
        rw [nI_l hlo, nI_l hhi]
        exact px_inN (by omega) hlo hhi
      rw [ein]
      simp only [px_1]
      by_cases k3 : lo ≤ px_vl tx s (q - s) ∧ px_vl tx s (q - s) ≤ hi
      · have ef : 0 = px_rf tx s q lo hi := by unfold px_rf; rw [if_neg (by omega), if_neg k2, if_neg (by omega), if_neg (by omega)]
        rw [decide_eq_true k3]
        simp only [Bool.toNat_true, px_e1, if_false]
        exact ⟨s, q, 0, M2, rfl, hq.symm, ef, rfl, f2, fun _ => ⟨b3, by rw [b4, ew], m13, m10⟩, fun z => absurd rfl z⟩
      · have ef : 2 = px_rf tx s q lo hi := by
          unfold px_rf; rw [if_neg (by omega), if_neg k2]
          by_cases z : px_vl tx s (q - s) < lo
          · rw [if_pos z]
          · rw [if_neg z, if_pos (by omega)]
        rw [decide_eq_false k3]
        simp only [Bool.toNat_false, px_e0, if_true]
        exact bad 2 (by omega) ef
  · have eq : px_dr tx (n - s) s = s := by
      by_cases c1 : s < n
      · have e2 : px_dr tx (n - s) s = if 48 ≤ tx s ∧ tx s ≤ 57 then px_dr tx (n - (s + 1)) (s + 1) else s := by
          rw [show n - s = (n - (s + 1)) + 1 by omega]; rfl
        rw [e2, if_neg (fun z => cd ⟨c1, z⟩)]
      · rw [show n - s = 0 by omega]; rfl
    have ein : Mo_in ((if s < n then nI (tx s) else (-1 : Int32)).toInt64) 48 57 = some (nI 0) := by
      by_cases c1 : s < n
      · rw [if_pos c1, px_in57 (h256 s c1), decide_eq_false (fun z => cd ⟨c1, z⟩)]; rfl
      · rw [if_neg c1]; rfl
    rw [ein]
    simp only [px_1, px_e0, if_true]
    unfold Mo_fails
    simp only [px_lt]
    rw [a3]
    exact ⟨s, s, 1, _, rfl, eq.symm, by unfold px_rf; rw [if_pos rfl], rfl, px_FM_u a2 (by omega), fun z => absurd z (by omega), fun _ => by rw [px_ui, if_pos rfl, if_pos rfl]⟩
end PR2
