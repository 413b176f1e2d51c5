def px_sk (tx : Nat → Nat) : Nat → Nat → Nat
  | 0, p => p
  | k + 1, p => if tx p = 32 then px_sk tx k (p + 1) else p
def px_dr (tx : Nat → Nat) : Nat → Nat → Nat
  | 0, p => p
  | k + 1, p => if 48 ≤ tx p ∧ tx p ≤ 57 then px_dr tx k (p + 1) else p
def px_vl (tx : Nat → Nat) (s : Nat) : Nat → Nat
  | 0 => 0
  | j + 1 => px_vl tx s j * 10 + (tx (s + j) - 48)
theorem px_sk_b (tx : Nat → Nat) : ∀ k p, p ≤ px_sk tx k p ∧ px_sk tx k p ≤ p + k
  | 0, p => ⟨Nat.le_refl _, Nat.le_refl _⟩
  | k + 1, p => by
    simp only [px_sk]
    split
    · have := px_sk_b tx k (p + 1); omega
    · omega
theorem px_dr_b (tx : Nat → Nat) : ∀ k p, p ≤ px_dr tx k p ∧ px_dr tx k p ≤ p + k
  | 0, p => ⟨Nat.le_refl _, Nat.le_refl _⟩
  | k + 1, p => by
    simp only [px_dr]
    split
    · have := px_dr_b tx k (p + 1); omega
    · omega
theorem px_sk_i (tx : Nat → Nat) : ∀ k p n, p + k = n → px_sk tx (n - px_sk tx k p) (px_sk tx k p) = px_sk tx k p
  | 0, p, n, h => by
    simp only [px_sk]
    rw [show n - p = 0 by omega]
    rfl
  | k + 1, p, n, h => by
    simp only [px_sk]
    by_cases c : tx p = 32
    · rw [if_pos c]; exact px_sk_i tx k (p + 1) n (by omega)
    · rw [if_neg c, show n - p = k + 1 by omega]
      simp only [px_sk]
      rw [if_neg c]
def px_TX (C : gm_M) (n : Nat) (tx : Nat → Nat) : Prop := n ≤ 240 ∧ C.1 2 1 = nI n ∧ ∀ i, i < n → tx i < 256 ∧ C.1 3 i = nI (tx i)
def px_TM (M : gm_M) (n : Nat) (tx : Nat → Nat) : Prop := M.1 0 9 = nI n ∧ ∀ i, i < n → M.1 3 i = nI (tx i)
def px_F1 (C C' : gm_M) : Prop := (∀ t, t ≠ 1 → C'.1 t = C.1 t) ∧ C'.2 = C.2
theorem px_F1_r (C : gm_M) : px_F1 C C := ⟨fun _ _ => rfl, rfl⟩
theorem px_F1_t {C C' C'' : gm_M} (h : px_F1 C C') (h' : px_F1 C' C'') : px_F1 C C'' := ⟨fun t ht => by rw [h'.1 t ht, h.1 t ht], by rw [h'.2, h.2]⟩
theorem px_F1_u {C C' : gm_M} {k : Nat} {v : Int32} (h : px_F1 C C') : px_F1 C (gm_ui C' 1 k v) := ⟨fun t ht => by rw [px_ui0 _ _ _ _ _ ht, h.1 t ht], h.2⟩
theorem px_TX_k {C C' : gm_M} {n : Nat} {tx : Nat → Nat} (h : px_TX C n tx) (h2 : C'.1 2 = C.1 2) (h3 : C'.1 3 = C.1 3) : px_TX C' n tx := by unfold px_TX; rw [h2, h3]; exact h
theorem px_TX_F {C C' : gm_M} {n : Nat} {tx : Nat → Nat} (h : px_TX C n tx) (f : px_F1 C C') : px_TX C' n tx := px_TX_k h (f.1 2 (by omega)) (f.1 3 (by omega))
theorem px_chn : ∀ t : Fin 256, vp_nar .char (nI t.1) = nI t.1 := by decide +kernel
section PR
variable {C M : gm_M} {n : Nat} {tx : Nat → Nat} {fl : Nat}
theorem px_lett {p : Nat} (h : px_TX C n tx) (hp : p ≤ n) : Tx_letterAt (nI p) C = some (nI (if p < n then tx p else 0)) := by
  obtain ⟨h1, h2, h3⟩ := h
  unfold Tx_letterAt
  rw [if_neg (nI_pos (by omega)), h2]
  by_cases c : p < n
  · obtain ⟨q1, q2⟩ := h3 p c
    rw [if_neg (fun q => by have := (nI_leI (by omega) (by omega)).mp q; omega), px_ck _ (by omega) (by decide), nI_clamp (by omega), q2, if_pos c]
    simp only [px_lt]
    rw [px_chn ⟨tx p, q1⟩, if_pos rfl]
  · rw [if_pos ((nI_leI (by omega) (by omega)).mpr (by omega)), if_neg c]
    rfl
theorem px_csk_L : ∀ (m y p : Nat) (C : gm_M), px_TX C n tx → C.1 1 2 = nI p → p ≤ n → y ≤ p → n - p < m → ∃ C', Rd_skipBlanks_L2 m (nI y) C = some C' ∧ px_F1 C C' ∧ C'.1 1 2 = nI (px_sk tx (n - p) p) ∧ (∀ k, k ≠ 2 → C'.1 1 k = C.1 1 k) := by
  intro m
  induction m with
  | zero => intro y p C _ _ _ _ q; omega
  | succ m ih =>
    intro y p C h hp hpn hy hm
    have h240 := h.1
    have e1 : Rd_skipBlanks_L2 (m + 1) (nI y) C = Rd_skipBlanks_L2_b (Rd_skipBlanks_L2 m) (nI y) C := rfl
    rw [e1]
    unfold Rd_skipBlanks_L2_b
    rw [hp, px_lett h hpn]
    simp only [px_1, px_lt]
    by_cases c : p < n
    · obtain ⟨q1, q2⟩ := h.2.2 p c
      rw [if_neg (show ¬ (240 : Int32) ≤ nI y from fun q => by have := (nI_leI (a := 240) (by omega) (by omega)).mp q; omega), if_pos c]
      have e2 : px_sk tx (n - p) p = if tx p = 32 then px_sk tx (n - (p + 1)) (p + 1) else p := by
        rw [show n - p = (n - (p + 1)) + 1 by omega]; rfl
      rw [e2]
      by_cases c2 : tx p = 32
      · rw [if_pos (show nI (tx p) = (32 : Int32) by rw [c2]; rfl), if_pos c2, show nI p + 1 = nI (p + 1) from nI_1 p, show nI y + 1 = nI (y + 1) from nI_1 y]
        obtain ⟨C', a1, a2, a3, a4⟩ := ih (y + 1) (p + 1) (gm_ui C 1 2 (nI (p + 1))) (px_TX_k h (px_ui0 _ _ _ _ _ (by omega)) (px_ui0 _ _ _ _ _ (by omega))) (by rw [px_ui, if_pos rfl, if_pos rfl]) (by omega) (by omega) (by omega)
        exact ⟨C', a1, px_F1_t (px_F1_u (px_F1_r C)) a2, a3, fun k hk => by rw [a4 k hk, px_ui, if_pos rfl, if_neg hk]⟩
      · rw [if_neg (show ¬ nI (tx p) = (32 : Int32) from fun q => c2 ((nI_eq (b := 32) (by omega) (by omega)).mp q)), if_neg c2]
        exact ⟨C, rfl, px_F1_r C, hp, fun _ _ => rfl⟩
    · have e2 : px_sk tx (n - p) p = p := by rw [show n - p = 0 by omega]; rfl
      rw [e2, if_neg c]
      have : (if (240 : Int32) ≤ nI y then some C else if nI 0 = 32 then Rd_skipBlanks_L2 m (nI y + 1) (gm_ui C 1 2 (nI p + 1)) else some C) = some C := by
        split
        · rfl
        · rw [if_neg (show ¬ nI 0 = (32 : Int32) by decide)]
      rw [this]
      exact ⟨C, rfl, px_F1_r C, hp, fun _ _ => rfl⟩
theorem px_csk {p : Nat} (hf : 1000 ≤ fl) (h : px_TX C n tx) (hp : C.1 1 2 = nI p) (hpn : p ≤ n) : ∃ C', Rd_skipBlanks fl C = some C' ∧ px_F1 C C' ∧ C'.1 1 2 = nI (px_sk tx (n - p) p) ∧ (∀ k, k ≠ 2 → C'.1 1 k = C.1 1 k) := by
  obtain ⟨C', a1, a2⟩ := px_csk_L fl 0 p C h hp hpn (by omega) (by have := h.1; omega)
  have a1 : Rd_skipBlanks_L2 fl 0 C = some C' := a1
  refine ⟨C', ?_, a2⟩
  unfold Rd_skipBlanks
  rw [a1]; rfl
def px_FM (M M' : gm_M) : Prop := (∀ t, t ≠ 0 → M'.1 t = M.1 t) ∧ (∀ k, (k < 10 ∨ 13 < k) → M'.1 0 k = M.1 0 k)
theorem px_FM_r (M : gm_M) : px_FM M M := ⟨fun _ _ => rfl, fun _ _ => rfl⟩
theorem px_FM_t {M M' M'' : gm_M} (h : px_FM M M') (h' : px_FM M' M'') : px_FM M M'' := ⟨fun t ht => by rw [h'.1 t ht, h.1 t ht], fun k hk => by rw [h'.2 k hk, h.2 k hk]⟩
theorem px_FM_u {M M' : gm_M} {k : Nat} {v : Int32} (h : px_FM M M') (hk : 10 ≤ k ∧ k ≤ 13) : px_FM M (gm_ui M' 0 k v) := ⟨fun t ht => by rw [px_ui0 _ _ _ _ _ ht, h.1 t ht], fun j hj => by rw [px_ui, if_pos rfl, if_neg (by omega), h.2 j hj]⟩
theorem px_TM_F {M M' : gm_M} (h : px_TM M n tx) (f : px_FM M M') : px_TM M' n tx := by unfold px_TM; rw [f.2 9 (by omega), f.1 3 (by omega)]; exact h
theorem px_here_L (h240 : n ≤ 240) (h256 : ∀ i, i < n → tx i < 256) : ∀ (m p : Nat) (M : gm_M), px_TM M n tx → M.1 0 11 = nI p → p ≤ n → n - p < m → ∃ M', Mo_here_L0 m M = some M' ∧ px_FM M M' ∧ M'.1 0 11 = nI (px_sk tx (n - p) p) ∧ (∀ k, k ≠ 11 → M'.1 0 k = M.1 0 k) := by
  intro m
  induction m with
  | zero => intro p M _ _ _ q; omega
  | succ m ih =>
    intro p M h hp hpn hm
    have e1 : Mo_here_L0 (m + 1) M = Mo_here_L0_b (Mo_here_L0 m) M := rfl
    rw [e1]
    unfold Mo_here_L0_b
    rw [hp, h.1]
    by_cases c : p < n
    · have q1 := h256 p c
      have q2 := h.2 p c
      rw [if_neg (fun q => by have := (nI_leI (by omega) (by omega)).mp q; omega), px_ck _ (by omega) (by decide), nI_clamp (by omega), q2]
      simp only [px_lt]
      have e2 : px_sk tx (n - p) p = if tx p = 32 then px_sk tx (n - (p + 1)) (p + 1) else p := by
        rw [show n - p = (n - (p + 1)) + 1 by omega]; rfl
      rw [e2]
      by_cases c2 : tx p = 32
      · rw [if_pos (show nI (tx p) = (32 : Int32) by rw [c2]; rfl), if_pos c2, show nI p + 1 = nI (p + 1) from nI_1 p]
        obtain ⟨M', a1, a2, a3, a4⟩ := ih (p + 1) (gm_ui M 0 11 (nI (p + 1))) (px_TM_F h (px_FM_u (px_FM_r M) (by omega))) (by rw [px_ui, if_pos rfl, if_pos rfl]) (by omega) (by omega)
        exact ⟨M', a1, px_FM_t (px_FM_u (px_FM_r M) (by omega)) a2, a3, fun k hk => by rw [a4 k hk, px_ui, if_pos rfl, if_neg hk]⟩
      · rw [if_neg (show ¬ nI (tx p) = (32 : Int32) from fun q => c2 ((nI_eq (b := 32) (by omega) (by omega)).mp q)), if_neg c2]
        exact ⟨M, rfl, px_FM_r M, hp, fun _ _ => rfl⟩
    · have e2 : px_sk tx (n - p) p = p := by rw [show n - p = 0 by omega]; rfl
      rw [e2, if_pos ((nI_leI (by omega) (by omega)).mpr (by omega))]
      exact ⟨M, rfl, px_FM_r M, hp, fun _ _ => rfl⟩
theorem px_here {p : Nat} (hf : 1000 ≤ fl) (h240 : n ≤ 240) (h256 : ∀ i, i < n → tx i < 256) (h : px_TM M n tx) (hp : M.1 0 11 = nI p) (hpn : p ≤ n) : ∃ M', Mo_here fl M = some (if px_sk tx (n - p) p < n then nI (tx (px_sk tx (n - p) p)) else -1, M') ∧ px_FM M M' ∧ M'.1 0 11 = nI (px_sk tx (n - p) p) ∧ (∀ k, k ≠ 11 → M'.1 0 k = M.1 0 k) := by
  obtain ⟨M', a1, a2, a3, a4⟩ := px_here_L h240 h256 fl p M h hp hpn (by omega)
  have hb := px_sk_b tx (n - p) p
  have h' := px_TM_F h a2
  refine ⟨M', ?_, a2, a3, a4⟩
  unfold Mo_here
  rw [a1]
  simp only [px_1]
  rw [a3, h'.1]
  by_cases c : px_sk tx (n - p) p < n
  · rw [if_neg (fun q => by have := (nI_leI (by omega) (by omega)).mp q; omega), if_pos c, px_ck _ (by omega) (by decide), nI_clamp (by omega), h'.2 _ c]
  · rw [if_pos ((nI_leI (by omega) (by omega)).mpr (by omega)), if_neg c]
theorem px_vl_b {s p : Nat} (hd : ∀ i, s ≤ i → i < p → 48 ≤ tx i ∧ tx i ≤ 57) : ∀ j, s + j ≤ p → px_vl tx s j < 10 ^ j
  | 0, _ => by simp [px_vl]
  | j + 1, h => by
    have i1 := px_vl_b hd j (by omega)
    have i2 := hd (s + j) (by omega) (by omega)
    simp only [px_vl]
    rw [Nat.pow_succ]
    omega
theorem px_isFig {t : Nat} (h : t < 256) : Rd_isFigure (nI t) = some (nI (decide (48 ≤ t ∧ t ≤ 57)).toNat) := by
  unfold Rd_isFigure
  by_cases c : t < 48
  · rw [if_pos (show nI t < (48 : Int32) from (nI_ltI (b := 48) (by omega) (by omega)).mpr c), decide_eq_false (by omega)]; rfl
  · rw [if_neg (show ¬ nI t < (48 : Int32) from fun q => c ((nI_ltI (b := 48) (by omega) (by omega)).mp q))]
    by_cases c2 : 57 < t
    · rw [if_pos (show (57 : Int32) < nI t from (nI_ltI (a := 57) (by omega) (by omega)).mpr c2), decide_eq_false (by omega)]; rfl
    · rw [if_neg (show ¬ (57 : Int32) < nI t from fun q => c2 ((nI_ltI (a := 57) (by omega) (by omega)).mp q)), decide_eq_true (by omega)]; rfl
theorem px_cnum_L {s : Nat} : ∀ (m y p : Nat) (C : gm_M), px_TX C n tx → C.1 1 2 = nI p → C.1 1 3 = nI s → s ≤ p → p ≤ n → y ≤ p → (∀ i, s ≤ i → i < p → 48 ≤ tx i ∧ tx i ≤ 57) → n - p < m → ∃ C', Rd_readNumber_L17 m (nI (px_vl tx s (if p - s < 4 then p - s else 4))) (nI y) C = some (nI (px_vl tx s (if px_dr tx (n - p) p - s < 4 then px_dr tx (n - p) p - s else 4)), C') ∧ px_F1 C C' ∧ C'.1 1 2 = nI (px_dr tx (n - p) p) ∧ (∀ k, k ≠ 2 → C'.1 1 k = C.1 1 k) := by
  intro m
  induction m with
  | zero => intro y p C _ _ _ _ _ _ _ q; omega
  | succ m ih =>
    intro y p C h hp hs hsp hpn hy hdg hm
    have h240 := h.1
    have e1 : ∀ v, Rd_readNumber_L17 (m + 1) v (nI y) C = Rd_readNumber_L17_b (Rd_readNumber_L17 m) v (nI y) C := fun _ => rfl
    rw [e1]
    unfold Rd_readNumber_L17_b
    rw [hp, hs, px_lett h hpn]
    simp only [px_1, px_lt]
    by_cases c : p < n
    · obtain ⟨q1, q2⟩ := h.2.2 p c
      rw [if_neg (show ¬ (240 : Int32) ≤ nI y from fun q => by have := (nI_leI (a := 240) (by omega) (by omega)).mp q; omega), if_pos c, px_isFig q1]
      simp only [px_1]
      have e2 : px_dr tx (n - p) p = if 48 ≤ tx p ∧ tx p ≤ 57 then px_dr tx (n - (p + 1)) (p + 1) else p := by
        rw [show n - p = (n - (p + 1)) + 1 by omega]; rfl
      rw [e2]
      by_cases c2 : 48 ≤ tx p ∧ tx p ≤ 57
      · rw [if_pos c2, decide_eq_true c2]
        simp only [Bool.toNat_true, px_e1, if_false]
        rw [show nI p + 1 = nI (p + 1) from nI_1 p, show nI y + 1 = nI (y + 1) from nI_1 y, pk_sub hsp]
        have hdg' : ∀ i, s ≤ i → i < p + 1 → 48 ≤ tx i ∧ tx i ≤ 57 := fun i i1 i2 => by
          by_cases ei : i = p
          · rw [ei]; exact c2
          · exact hdg i i1 (by omega)
        obtain ⟨C', a1, a2, a3, a4⟩ := ih (y + 1) (p + 1) (gm_ui C 1 2 (nI (p + 1))) (px_TX_k h (px_ui0 _ _ _ _ _ (by omega)) (px_ui0 _ _ _ _ _ (by omega))) (by rw [px_ui, if_pos rfl, if_pos rfl]) (by rw [px_ui, if_pos rfl, if_neg (by omega)]; exact hs) (by omega) (by omega) (by omega) hdg' (by omega)
        refine ⟨C', ?_, px_F1_t (px_F1_u (px_F1_r C)) a2, a3, fun k hk => by rw [a4 k hk, px_ui, if_pos rfl, if_neg hk]⟩
        by_cases c4 : 4 ≤ p - s
        · rw [if_pos (show (4 : Int32) ≤ nI (p - s) from (nI_leI (a := 4) (by omega) (by omega)).mpr c4)]
          simp only [px_1]
          rw [if_neg (by omega)] at a1 ⊢
          exact a1
        · rw [if_neg (show ¬ (4 : Int32) ≤ nI (p - s) from fun q => c4 ((nI_leI (a := 4) (by omega) (by omega)).mp q))]
          simp only [px_1]
          have hv : px_vl tx s (p - s) < 10 ^ (p - s) := px_vl_b hdg (p - s) (by omega)
          have hv4 : (10 : Nat) ^ (p - s) ≤ 10 ^ 4 := Nat.pow_le_pow_right (by decide) (by omega)
          have ev : px_vl tx s (p + 1 - s) = px_vl tx s (p - s) * 10 + (tx p - 48) := by
            rw [show p + 1 - s = (p - s) + 1 by omega]
            simp only [px_vl]
            rw [show s + (p - s) = p by omega]
          have ei : (if p + 1 - s < 4 then p + 1 - s else 4) = p + 1 - s := by split <;> omega
          rw [ei, ev] at a1
          rw [if_pos (show p - s < 4 by omega), show nI (tx p) - 48 = nI (tx p - 48) from pk_sub (b := 48) c2.1, show nI (px_vl tx s (p - s)) * 10 = nI (px_vl tx s (p - s) * 10) from pk_mul _ 10, nI_add]
          exact a1
      · rw [if_neg c2, decide_eq_false c2]
        simp only [Bool.toNat_false, px_e0, if_true]
        exact ⟨C, rfl, px_F1_r C, hp, fun _ _ => rfl⟩
    · have e2 : px_dr tx (n - p) p = p := by rw [show n - p = 0 by omega]; rfl
      rw [e2, if_neg c, px_isFig (by omega), decide_eq_false (by omega)]
      simp only [px_1, Bool.toNat_false, px_e0, if_true, ite_self]
      exact ⟨C, rfl, px_F1_r C, hp, fun _ _ => rfl⟩
def px_rf (tx : Nat → Nat) (s q lo hi : Nat) : Nat := if q = s then 1 else if 4 < q - s then 2 else if px_vl tx s (q - s) < lo then 2 else if hi < px_vl tx s (q - s) then 2 else 0
theorem px_rf_b {s q lo hi : Nat} : px_rf tx s q lo hi ≤ 2 := by unfold px_rf; split <;> (try split) <;> (try split) <;> (try split) <;> omega
theorem px_setF {fc f w : Nat} (hfc : C.1 1 4 = nI fc) (hfc4 : fc ≤ 4) (hf0 : f ≠ 0) (hf4 : f ≤ 4) : ∃ C', Rd_setFault (nI f) (nI w) C = some C' ∧ px_F1 C C' ∧ C'.1 1 4 = nI (if fc = 0 then f else fc) ∧ (fc = 0 → C'.1 1 5 = nI w) ∧ (fc ≠ 0 → C'.1 1 5 = C.1 1 5) ∧ (∀ k, k ≠ 4 → k ≠ 5 → C'.1 1 k = C.1 1 k) := by
  unfold Rd_setFault
  rw [hfc]
  simp only [px_lt]
  by_cases c : fc = 0
  · rw [if_pos (show nI fc = (0 : Int32) by rw [c]; rfl), if_pos c]
    exact ⟨_, rfl, px_F1_u (px_F1_u (px_F1_r C)), by rw [px_ui, if_pos rfl, if_neg (by omega), px_ui, if_pos rfl, if_pos rfl], fun _ => by rw [px_ui, if_pos rfl, if_pos rfl], fun q => absurd c q, fun k k1 k2 => by rw [px_ui, if_pos rfl, if_neg k2, px_ui, if_pos rfl, if_neg k1]⟩
  · rw [if_neg (show ¬ nI fc = (0 : Int32) from fun q => c ((nI_eq (b := 0) (by omega) (by omega)).mp q)), if_neg c]
    exact ⟨_, rfl, px_F1_r C, hfc, fun q => absurd q c, fun _ => rfl, fun _ _ _ => rfl⟩
theorem px_crn {p lo hi fc : Nat} (hf : 1000 ≤ fl) (h : px_TX C n tx) (hp : C.1 1 2 = nI p) (hpn : p ≤ n) (hfc : C.1 1 4 = nI fc) (hfc4 : fc ≤ 4) (hlo : lo < 2 ^ 31) (hhi : hi < 2 ^ 31) : ∃ s q v f C', s = px_sk tx (n - p) p ∧ q = px_dr tx (n - s) s ∧ f = px_rf tx s q lo hi ∧ Rd_readNumber fl (nI lo) (nI hi) C = some (nI v, C') ∧ (f = 0 → v = px_vl tx s (q - s)) ∧ v < 10000 ∧ px_F1 C C' ∧ C'.1 1 2 = nI q ∧ q ≤ n ∧ s ≤ q ∧ p ≤ s ∧ C'.1 1 3 = nI s ∧ C'.1 1 6 = C.1 1 6 ∧ C'.1 1 4 = nI (if fc = 0 then f else fc) ∧ (fc = 0 → f ≠ 0 → C'.1 1 5 = nI s) ∧ (fc ≠ 0 ∨ f = 0 → C'.1 1 5 = C.1 1 5) := by
  obtain ⟨C1, a1, a2, a3, a4⟩ := px_csk hf h hp hpn
  have hb1 := px_sk_b tx (n - p) p
  have h1 := px_TX_F h a2
  generalize hs : px_sk tx (n - p) p = s at *
  have h240 := h.1
  obtain ⟨C2, b1, b2, b3, b4⟩ := px_cnum_L (s := s) fl 0 s (gm_ui C1 1 3 (nI s)) (px_TX_k h1 (px_ui0 _ _ _ _ _ (by omega)) (px_ui0 _ _ _ _ _ (by omega))) (by rw [px_ui, if_pos rfl, if_neg (by omega)]; exact a3) (by rw [px_ui, if_pos rfl, if_pos rfl]) (by omega) (by omega) (by omega) (fun i i1 i2 => by omega) (by omega)
  have hb2 := px_dr_b tx (n - s) s
  generalize hq : px_dr tx (n - s) s = q at *
  rw [show (if s - s < 4 then s - s else 4) = 0 by rw [Nat.sub_self]; rfl] at b1
  have b1 : Rd_readNumber_L17 fl 0 0 (gm_ui C1 1 3 (nI s)) = _ := b1
  have hdg : ∀ (k p : Nat) (i : Nat), p ≤ i → i < px_dr tx k p → 48 ≤ tx i ∧ tx i ≤ 57 := by
    intro k
    induction k with
    | zero => intro p i i1 i2; simp only [px_dr] at i2; omega
    | succ k ih =>
      intro p i i1 i2
      simp only [px_dr] at i2
      by_cases c : 48 ≤ tx p ∧ tx p ≤ 57
      · rw [if_pos c] at i2
        by_cases ei : i = p
        · rw [ei]; exact c
        · exact ih (p + 1) i (by omega) i2
      · rw [if_neg c] at i2; omega
  have hdq : ∀ i, s ≤ i → i < q → 48 ≤ tx i ∧ tx i ≤ 57 := fun i i1 i2 => hdg (n - s) s i i1 (by rw [hq]; exact i2)
  have hvb : ∀ j, j ≤ 4 → s + j ≤ q → px_vl tx s j < 10000 := fun j j4 jq => by
    have hv := px_vl_b hdq j jq
    have hv4 : (10 : Nat) ^ j ≤ 10 ^ 4 := Nat.pow_le_pow_right (by decide) j4
    omega
  have hv : px_vl tx s (if q - s < 4 then q - s else 4) < 10000 := hvb _ (by split <;> omega) (by split <;> omega)
  have c2 : C2.1 1 2 = nI q := b3
  have c3 : C2.1 1 3 = nI s := by rw [b4 3 (by omega), px_ui, if_pos rfl, if_pos rfl]
  have c4 : C2.1 1 4 = nI fc := by rw [b4 4 (by omega), px_ui, if_pos rfl, if_neg (by omega), a4 4 (by omega)]; exact hfc
  have c5 : C2.1 1 5 = C.1 1 5 := by rw [b4 5 (by omega), px_ui, if_pos rfl, if_neg (by omega), a4 5 (by omega)]
  have c6 : C2.1 1 6 = C.1 1 6 := by rw [b4 6 (by omega), px_ui, if_pos rfl, if_neg (by omega), a4 6 (by omega)]
  have f2 : px_F1 C C2 := px_F1_t (px_F1_u a2) b2
  have key : ∀ f, f ≠ 0 → f ≤ 2 → f = px_rf tx s q lo hi → (∃ C', (gm_bp1 (Rd_setFault (nI f) (nI s) C2) fun S => some (nI (px_vl tx s (if q - s < 4 then q - s else 4)), S)) = some (nI (px_vl tx s (if q - s < 4 then q - s else 4)), C') ∧ px_F1 C C' ∧ C'.1 1 2 = nI q ∧ C'.1 1 3 = nI s ∧ C'.1 1 6 = C.1 1 6 ∧ C'.1 1 4 = nI (if fc = 0 then f else fc) ∧ (fc = 0 → f ≠ 0 → C'.1 1 5 = nI s) ∧ (fc ≠ 0 ∨ f = 0 → C'.1 1 5 = C.1 1 5)) := by
    intro f f0 f2' _
    obtain ⟨C', x1, x2, x3, x4, x5, x6⟩ := px_setF (f := f) (w := s) c4 hfc4 f0 (by omega)
    refine ⟨C', by rw [x1]; rfl, px_F1_t f2 x2, by rw [x6 2 (by omega) (by omega)]; exact c2, by rw [x6 3 (by omega) (by omega)]; exact c3, by rw [x6 6 (by omega) (by omega)]; exact c6, x3, fun y _ => x4 y, fun y => ?_⟩
    rcases y with y | y
    · rw [x5 y, c5]
    · exact absurd y f0
  unfold Rd_readNumber
  rw [a1]
  simp only [px_1, px_lt]
  rw [a3, b1, px_2, c2, c3]
  by_cases k1 : q = s
  · have ef : px_rf tx s q lo hi = 1 := by unfold px_rf; rw [if_pos k1]
    obtain ⟨C', x1, x2, x3, x4, x5, x6, x7, x8⟩ := key 1 (by omega) (by omega) ef.symm
    rw [if_pos (by rw [k1])]
    have e1 : Rd_setFault 1 (nI q) C2 = Rd_setFault (nI 1) (nI s) C2 := by rw [k1]; rfl
    rw [e1, x1]
    exact ⟨s, q, _, 1, C', rfl, hq.symm, ef.symm, rfl, fun z => absurd z (by omega), hv, x2, x3, by omega, by omega, by omega, x4, x5, x6, x7, x8⟩
  · rw [if_neg (fun z => k1 ((nI_eq (by omega) (by omega)).mp z)), pk_sub (show s ≤ q by omega)]
    by_cases k2 : 4 < q - s
    · have ef : px_rf tx s q lo hi = 2 := by unfold px_rf; rw [if_neg k1, if_pos k2]
      obtain ⟨C', x1, x2, x3, x4, x5, x6, x7, x8⟩ := key 2 (by omega) (by omega) ef.symm
      rw [if_pos (show (4 : Int32) < nI (q - s) from (nI_ltI (a := 4) (by omega) (by omega)).mpr k2)]
      have e1 : Rd_setFault 2 (nI s) C2 = Rd_setFault (nI 2) (nI s) C2 := rfl
      rw [e1, x1]
      exact ⟨s, q, _, 2, C', rfl, hq.symm, ef.symm, rfl, fun z => absurd z (by omega), hv, x2, x3, by omega, by omega, by omega, x4, x5, x6, x7, x8⟩
    · have ev : (if q - s < 4 then q - s else 4) = q - s := by split <;> omega
      rw [if_neg (show ¬ (4 : Int32) < nI (q - s) from fun z => k2 ((nI_ltI (a := 4) (by omega) (by omega)).mp z))]
      rw [ev] at hv key ⊢
      by_cases k3 : px_vl tx s (q - s) < lo
      · have ef : px_rf tx s q lo hi = 2 := by unfold px_rf; rw [if_neg k1, if_neg k2, if_pos k3]
        obtain ⟨C', x1, x2, x3, x4, x5, x6, x7, x8⟩ := key 2 (by omega) (by omega) ef.symm
        rw [if_pos ((nI_ltI (by omega) hlo).mpr k3)]
        have e1 : Rd_setFault 2 (nI s) C2 = Rd_setFault (nI 2) (nI s) C2 := rfl
        rw [e1, x1]
        exact ⟨s, q, _, 2, C', rfl, hq.symm, ef.symm, rfl, fun z => absurd z (by omega), hv, x2, x3, by omega, by omega, by omega, x4, x5, x6, x7, x8⟩
      · rw [if_neg (fun z => k3 ((nI_ltI (by omega) hlo).mp z))]
        by_cases k4 : hi < px_vl tx s (q - s)
        · have ef : px_rf tx s q lo hi = 2 := by unfold px_rf; rw [if_neg k1, if_neg k2, if_neg k3, if_pos k4]
          obtain ⟨C', x1, x2, x3, x4, x5, x6, x7, x8⟩ := key 2 (by omega) (by omega) ef.symm
          rw [if_neg (fun z => by have := (nI_leI (by omega) hhi).mp z; omega)]
          have e1 : Rd_setFault 2 (nI s) C2 = Rd_setFault (nI 2) (nI s) C2 := rfl
          rw [e1, x1]
          exact ⟨s, q, _, 2, C', rfl, hq.symm, ef.symm, rfl, fun z => absurd z (by omega), hv, x2, x3, by omega, by omega, by omega, x4, x5, x6, x7, x8⟩
        · have ef : px_rf tx s q lo hi = 0 := by unfold px_rf; rw [if_neg k1, if_neg k2, if_neg k3, if_neg k4]
          rw [if_pos ((nI_leI (by omega) hhi).mpr (by omega))]
          refine ⟨s, q, _, 0, C2, rfl, hq.symm, ef.symm, rfl, fun _ => rfl, hv, f2, c2, by omega, by omega, by omega, c3, c6, ?_, fun _ z => absurd rfl z, fun _ => c5⟩
          rw [c4]
          by_cases z : fc = 0
          · rw [if_pos z, z]
          · rw [if_neg z]
end PR
