def px_cg (nr nn : Nat) (g : Nat → Nat) : Prop := ∀ j, 0 < j → j < 42 → ¬ ((1 ≤ j ∧ j < 1 + nr) ∨ (5 ≤ j ∧ j < 5 + nr) ∨ (9 ≤ j ∧ j < 9 + nr) ∨ (13 ≤ j ∧ j < 13 + nn) ∨ (17 ≤ j ∧ j < 17 + nn)) → g j = 0
def px_OD (C M : gm_M) (d nr nn np : Nat) (kd g : Nat → Nat) (mt : Bool) : Prop := px_V0 d nr nn np kd ∧ px_V1 d nr nn g ∧ px_cg nr nn g ∧ px_CT C 4 d nr nn np kd g ∧ (M.1 0 14 = nI d ∧ M.1 0 15 = nI (px_num d - 1) ∧ M.1 0 17 = nI (g 0) ∧ M.1 0 18 = nI nr ∧ M.1 0 22 = nI nn ∧ M.1 0 25 = nI np) ∧ (C.1 1 6 = nI mt.toNat ∧ M.1 0 16 = nI mt.toNat) ∧ (∀ r, r < nr → M.1 4 r = nI (g (1 + r)) ∧ M.1 5 r = nI (g (5 + r)) ∧ M.1 6 r = nI (g (9 + r))) ∧ (∀ r, r < nn → M.1 7 r = nI (g (13 + r)) ∧ M.1 8 r = nI (g (17 + r))) ∧ (∀ p, p < np → M.1 9 p = nI (kd p))
def px_CP (C : gm_M) (n : Nat) (tx : Nat → Nat) (p fc : Nat) : Prop := px_TX C n tx ∧ C.1 1 2 = nI p ∧ p ≤ n ∧ C.1 1 4 = nI fc ∧ fc ≤ 4
def px_ST (C M : gm_M) (n : Nat) (tx : Nat → Nat) (p : Nat) : Prop := px_CP C n tx p 0 ∧ px_TM M n tx ∧ M.1 0 11 = nI p ∧ M.1 0 10 = -1 ∧ ∃ (d nr nn np : Nat) (kd g : Nat → Nat) (mt : Bool), px_OD C M d nr nn np kd g mt
def px_FL (v : Int32) (C M : gm_M) (n : Nat) (tx : Nat → Nat) : Prop := ∃ f w q, f ≠ 0 ∧ f ≤ 4 ∧ v = nI f ∧ px_CP C n tx q f ∧ C.1 1 5 = nI w ∧ M.1 0 10 = nI w
def px_OUT (v : Int32) (C M : gm_M) (n : Nat) (tx : Nat → Nat) (p : Nat) : Prop := (v = nI 0 ∧ ∃ q, p ≤ q ∧ px_ST C M n tx q) ∨ px_FL v C M n tx
def px_FC (C C' : gm_M) : Prop := (∀ t, t ≠ 1 → (t < 4 ∨ 7 < t) → C'.1 t = C.1 t) ∧ C'.2 = C.2
def px_FN (M M' : gm_M) : Prop := (∀ t, t ≠ 0 → (t < 4 ∨ 9 < t) → M'.1 t = M.1 t) ∧ (∀ k, (k < 10 ∨ 25 < k) → M'.1 0 k = M.1 0 k)
theorem px_FC_r (C : gm_M) : px_FC C C := ⟨fun _ _ _ => rfl, rfl⟩
theorem px_FC_t {C C' C'' : gm_M} (h : px_FC C C') (h' : px_FC C' C'') : px_FC C C'' := ⟨fun t t1 t2 => by rw [h'.1 t t1 t2, h.1 t t1 t2], by rw [h'.2, h.2]⟩
theorem px_FC_1 {C C' : gm_M} (h : px_F1 C C') : px_FC C C' := ⟨fun t t1 _ => h.1 t t1, h.2⟩
theorem px_FC_u {C C' : gm_M} {t k : Nat} {v : Int32} (h : px_FC C C') (ht : t = 1 ∨ (4 ≤ t ∧ t ≤ 7)) : px_FC C (gm_ui C' t k v) := ⟨fun t' t1 t2 => by rw [px_ui0 _ _ _ _ _ (by omega), h.1 t' t1 t2], h.2⟩
theorem px_FN_r (M : gm_M) : px_FN M M := ⟨fun _ _ _ => rfl, fun _ _ => rfl⟩
theorem px_FN_t {M M' M'' : gm_M} (h : px_FN M M') (h' : px_FN M' M'') : px_FN M M'' := ⟨fun t t1 t2 => by rw [h'.1 t t1 t2, h.1 t t1 t2], fun k hk => by rw [h'.2 k hk, h.2 k hk]⟩
theorem px_FN_m {M M' : gm_M} (h : px_FM M M') : px_FN M M' := ⟨fun t t1 _ => h.1 t t1, fun k hk => h.2 k (by omega)⟩
theorem px_FN_0 {M M' : gm_M} {k : Nat} {v : Int32} (h : px_FN M M') (hk : 10 ≤ k ∧ k ≤ 25) : px_FN M (gm_ui M' 0 k v) := ⟨fun t t1 t2 => by rw [px_ui0 _ _ _ _ _ t1, h.1 t t1 t2], fun j hj => by rw [px_ui, if_pos rfl, if_neg (by omega), h.2 j hj]⟩
theorem px_FN_u {M M' : gm_M} {t k : Nat} {v : Int32} (h : px_FN M M') (ht : 4 ≤ t ∧ t ≤ 9) : px_FN M (gm_ui M' t k v) := ⟨fun t' t1 t2 => by rw [px_ui0 _ _ _ _ _ (by omega), h.1 t' t1 t2], fun j hj => by rw [px_ui0 _ _ _ _ _ (by omega), h.2 j hj]⟩
theorem px_TM_N {M M' : gm_M} {n : Nat} {tx : Nat → Nat} (h : px_TM M n tx) (f : px_FN M M') : px_TM M' n tx := by unfold px_TM; rw [f.2 9 (by omega), f.1 3 (by omega) (by omega)]; exact h
theorem px_TX_C {C C' : gm_M} {n : Nat} {tx : Nat → Nat} (h : px_TX C n tx) (f : px_FC C C') : px_TX C' n tx := px_TX_k h (f.1 2 (by omega) (by omega)) (f.1 3 (by omega) (by omega))
section PR3
variable {C M C' M' : gm_M} {n : Nat} {tx : Nat → Nat} {fl d nr nn np : Nat} {kd g : Nat → Nat} {mt : Bool}
theorem px_OD_k (h : px_OD C M d nr nn np kd g mt) (f : px_F1 C C') (c6 : C'.1 1 6 = C.1 1 6) (m : px_FM M M') : px_OD C' M' d nr nn np kd g mt := by
  obtain ⟨h0, h1, h2, h3, ⟨h4, h5, h6, h7, h8, h9⟩, ⟨h10, h11⟩, h12, h13, h14⟩ := h
  refine ⟨h0, h1, h2, px_CT_k h3 (f.1 _ (by omega)) (f.1 _ (by omega)) (f.1 _ (by omega)) (f.1 _ (by omega)), ⟨by rw [m.2 14 (by omega)]; exact h4, by rw [m.2 15 (by omega)]; exact h5, by rw [m.2 17 (by omega)]; exact h6, by rw [m.2 18 (by omega)]; exact h7, by rw [m.2 22 (by omega)]; exact h8, by rw [m.2 25 (by omega)]; exact h9⟩, ⟨by rw [c6]; exact h10, by rw [m.2 16 (by omega)]; exact h11⟩, ?_, ?_, ?_⟩
  · rw [m.1 4 (by omega), m.1 5 (by omega), m.1 6 (by omega)]; exact h12
  · rw [m.1 7 (by omega), m.1 8 (by omega)]; exact h13
  · rw [m.1 9 (by omega)]; exact h14
theorem px_num2 {p lo hi : Nat} (hf : 1000 ≤ fl) (h : px_CP C n tx p 0) (hM : px_TM M n tx) (hp : M.1 0 11 = nI p) (hlo : lo < 2 ^ 31) (hhi : hi < 2 ^ 31) : ∃ f v C' M', Rd_readNumber fl (nI lo) (nI hi) C = some (nI v, C') ∧ Mo_takeNumber fl (nI lo) (nI hi) M = some (nI f, M') ∧ px_F1 C C' ∧ px_FM M M' ∧ C'.1 1 6 = C.1 1 6 ∧ v < 10000 ∧ ((f = 0 ∧ ∃ q s, px_CP C' n tx q 0 ∧ p ≤ q ∧ M'.1 0 11 = nI q ∧ M'.1 0 10 = M.1 0 10 ∧ M'.1 0 12 = nI v ∧ lo ≤ v ∧ v ≤ hi ∧ C'.1 1 3 = nI s ∧ M'.1 0 13 = nI s) ∨ (f ≠ 0 ∧ f ≤ 2 ∧ ∃ q w, px_CP C' n tx q f ∧ C'.1 1 5 = nI w ∧ M'.1 0 10 = nI w)) := by
  obtain ⟨h1, h2, h3, h4, h5⟩ := h
  obtain ⟨s, q, v, f, C', es, eq, ef, a1, a2, a3, a4, a5, a6, a7, a8, a9, a10, a11, a12, a13⟩ := px_crn (lo := lo) (hi := hi) hf h1 h2 h3 h4 h5 hlo hhi
  obtain ⟨s', q', f', M', es', eq', ef', b1, b2, b3, b4⟩ := px_mrn (lo := lo) (hi := hi) hf h1.1 (fun i hi => (h1.2.2 i hi).1) hM hp h3 hlo hhi
  have e1 : s' = s := by rw [es', es]
  subst e1
  have e2 : q' = q := by rw [eq', eq]
  subst e2
  have e3 : f' = f := by rw [ef', ef]
  subst e3
  rw [if_pos rfl] at a11
  have hf2 : f' ≤ 2 := by rw [ef']; exact px_rf_b
  refine ⟨f', v, C', M', a1, b1, a4, b2, a10, a3, ?_⟩
  by_cases c : f' = 0
  · left
    obtain ⟨z1, z2, z3, z4⟩ := b3 c
    have hv := a2 c
    have hr : px_rf tx s' q' lo hi = 0 := by rw [← ef', c]
    have hb : lo ≤ v ∧ v ≤ hi := by
      rw [hv]
      unfold px_rf at hr
      split at hr
      · omega
      · split at hr
        · omega
        · split at hr
          · omega
          · split at hr
            · omega
            · omega
    rw [c] at a11
    exact ⟨c, q', s', ⟨px_TX_F h1 a4, a5, a6, a11, by omega⟩, by omega, z1, z4, by rw [z2, hv], hb.1, hb.2, a9, z3⟩
  · right
    exact ⟨c, hf2, q', s', ⟨px_TX_F h1 a4, a5, a6, a11, by omega⟩, a12 rfl c, b4 c⟩
theorem px_numf {p lo hi fc : Nat} (hf : 1000 ≤ fl) (h : px_CP C n tx p fc) (h0 : fc ≠ 0) (hlo : lo < 2 ^ 31) (hhi : hi < 2 ^ 31) : ∃ v C' q, Rd_readNumber fl (nI lo) (nI hi) C = some (nI v, C') ∧ px_F1 C C' ∧ px_CP C' n tx q fc ∧ C'.1 1 5 = C.1 1 5 := by
  obtain ⟨h1, h2, h3, h4, h5⟩ := h
  obtain ⟨s, q, v, f, C', es, eq, ef, a1, a2, a3, a4, a5, a6, a7, a8, a9, a10, a11, a12, a13⟩ := px_crn (lo := lo) (hi := hi) hf h1 h2 h3 h4 h5 hlo hhi
  rw [if_neg h0] at a11
  exact ⟨v, C', q, a1, a4, ⟨px_TX_F h1 a4, a5, a6, a11, h5⟩, a13 (Or.inl h0)⟩
theorem px_nf {f : Nat} (h : f ≠ 0) (h4 : f ≤ 4) : ¬ nI f = (0 : Int32) := fun q => h ((nI_eq (b := 0) (by omega) (by omega)).mp q)
theorem px_nfl {f : Nat} (h : f ≠ 0) (h4 : f ≤ 4) : ¬ nI f ≤ (0 : Int32) := nI_nle (by omega) (by omega)
theorem px_bFig {p : Nat} (hf : 1000 ≤ fl) (h : px_ST C M n tx p) (hd0 : M.1 0 14 = nI 0) : ∃ v C' M', Rd_readFigures fl C = some C' ∧ Mo_takeFigures fl M = some (v, M') ∧ px_FC C C' ∧ px_FN M M' ∧ px_OUT v C' M' n tx p := by
  obtain ⟨hC, hM, hp, h10, d, nr, nn, np, kd, g, mt, hO⟩ := h
  obtain ⟨f, v, C1, M1, a1, a2, a3, a4, a5, a6, a7⟩ := px_num2 (lo := 2) (hi := 4) hf hC hM hp (by decide) (by decide)
  have a1 : Rd_readNumber fl 2 4 C = some (nI v, C1) := a1
  have a2 : Mo_takeNumber fl 2 4 M = some (nI f, M1) := a2
  have hO1 := px_OD_k hO a3 a5 a4
  obtain ⟨z0, z1, z2, z3, ⟨z4, z5, z6, z7, z8, z9⟩, ⟨z10, z11⟩, z12, z13, z14⟩ := hO1
  have hd : d = 0 := by
    have : nI d = nI 0 := by rw [← hO.2.2.2.2.1.1, hd0]
    have h4 := px_V0_d z0
    exact (nI_eq (by omega) (by omega)).mp this
  obtain ⟨n1, n2, n3⟩ := z0.2.2.2.2.1 hd
  subst hd n1 n2 n3
  unfold Rd_readFigures Mo_takeFigures
  rw [a1, a2, px_2, px_2]
  simp only [px_lt]
  rcases a7 with ⟨rfl, q, s, b1, b2, b3, b4, b5, b6, b7, b8, b9⟩ | ⟨f0, f2, q, w, b1, b2, b3⟩
  · have e12 : (gm_ui M1 0 14 (M1.1 0 12)).1 0 12 = nI v := by rw [px_ui, if_pos rfl, if_neg (by omega)]; exact b5
    rw [b1.2.2.2.1, if_pos (show nI 0 = (0 : Int32) from rfl), e12, b5]
    have fin : ∀ top, nI top = nI (px_num v - 1) → px_OUT (nI 0) (gm_ui C1 4 3 (nI v)) (gm_ui (gm_ui M1 0 14 (nI v)) 0 15 (nI top)) n tx p := by
      intro top htop
      left
      refine ⟨rfl, q, b2, ⟨px_TX_k b1.1 (px_ui0 _ _ _ _ _ (by omega)) (px_ui0 _ _ _ _ _ (by omega)), by rw [px_ui0 _ _ _ _ _ (by omega)]; exact b1.2.1, b1.2.2.1, by rw [px_ui0 _ _ _ _ _ (by omega)]; exact b1.2.2.2.1, by omega⟩, px_TM_N (px_TM_F hM a4) (px_FN_0 (px_FN_0 (px_FN_r _) (by omega)) (by omega)), by rw [px_ui, if_pos rfl, if_neg (by omega), px_ui, if_pos rfl, if_neg (by omega)]; exact b3, by rw [px_ui, if_pos rfl, if_neg (by omega), px_ui, if_pos rfl, if_neg (by omega), b4]; exact h10, v, 0, 0, 0, kd, g, mt, ⟨by omega, by omega, by omega, by omega, fun _ => ⟨rfl, rfl, rfl⟩, fun p hp => by omega⟩, ⟨z1.1, fun r hr => by omega, fun r hr => by omega, z1.2.2.2⟩, z2, ?_, ⟨by rw [px_ui, if_pos rfl, if_neg (by omega), px_ui, if_pos rfl, if_pos rfl], by rw [px_ui, if_pos rfl, if_pos rfl]; exact htop, by rw [px_ui, if_pos rfl, if_neg (by omega), px_ui, if_pos rfl, if_neg (by omega)]; exact z6, by rw [px_ui, if_pos rfl, if_neg (by omega), px_ui, if_pos rfl, if_neg (by omega)]; exact z7, by rw [px_ui, if_pos rfl, if_neg (by omega), px_ui, if_pos rfl, if_neg (by omega)]; exact z8, by rw [px_ui, if_pos rfl, if_neg (by omega), px_ui, if_pos rfl, if_neg (by omega)]; exact z9⟩, ⟨by rw [px_ui0 _ _ _ _ _ (by omega)]; exact z10, by rw [px_ui, if_pos rfl, if_neg (by omega), px_ui, if_pos rfl, if_neg (by omega)]; exact z11⟩, fun r hr => by omega, fun r hr => by omega, fun r hr => by omega⟩
      obtain ⟨y1, y2, y3, y4, y5, y6, y7, y8, y9⟩ := z3
      exact ⟨by rw [px_ui, if_pos rfl, if_pos rfl], by rw [px_ui, if_pos rfl, if_neg (by omega)]; exact y2, by rw [px_ui, if_pos rfl, if_neg (by omega)]; exact y3, by rw [px_ui, if_pos rfl, if_neg (by omega)]; exact y4, by rw [px_ui, if_pos rfl, if_neg (by omega)]; exact y5, by rw [px_ui, if_pos rfl, if_neg (by omega)]; exact y6, fun r hr => by omega, fun r hr => by omega, fun r hr => by omega⟩
    have fc : px_FC C (gm_ui C1 4 3 (nI v)) := px_FC_u (px_FC_1 a3) (by omega)
    have fm : ∀ x : Int32, px_FN M (gm_ui (gm_ui M1 0 14 (nI v)) 0 15 x) := fun x => px_FN_0 (px_FN_0 (px_FN_m a4) (by omega)) (by omega)
    rcases (show v = 2 ∨ v = 3 ∨ v = 4 by omega) with rfl | rfl | rfl
    · rw [if_pos (show nI 2 = (2 : Int32) from rfl)]
      exact ⟨_, _, _, rfl, rfl, fc, fm _, fin 99 rfl⟩
    · rw [if_neg (show ¬ nI 3 = (2 : Int32) by decide), if_pos (show nI 3 = (3 : Int32) from rfl)]
      exact ⟨_, _, _, rfl, rfl, fc, fm _, fin 999 rfl⟩
    · rw [if_neg (show ¬ nI 4 = (2 : Int32) by decide), if_neg (show ¬ nI 4 = (3 : Int32) by decide)]
      exact ⟨_, _, _, rfl, rfl, fc, fm _, fin 9999 rfl⟩
  · rw [b1.2.2.2.1, if_neg (px_nf f0 (by omega))]
    have fm : ∀ x y : Int32, px_FN M (gm_ui (gm_ui M1 0 14 x) 0 15 y) := fun x y => px_FN_0 (px_FN_0 (px_FN_m a4) (by omega)) (by omega)
    have bad : ∀ x y : Int32, px_OUT (nI f) C1 (gm_ui (gm_ui M1 0 14 x) 0 15 y) n tx p := fun x y => Or.inr ⟨f, w, q, f0, by omega, rfl, b1, b2, by rw [px_ui, if_pos rfl, if_neg (by omega), px_ui, if_pos rfl, if_neg (by omega)]; exact b3⟩
    split
    · exact ⟨_, _, _, rfl, rfl, px_FC_1 a3, fm _ _, bad _ _⟩
    · split
      · exact ⟨_, _, _, rfl, rfl, px_FC_1 a3, fm _ _, bad _ _⟩
      · exact ⟨_, _, _, rfl, rfl, px_FC_1 a3, fm _ _, bad _ _⟩
theorem px_bMode {p : Nat} (hf : 1000 ≤ fl) (h : px_ST C M n tx p) : ∃ v C' M', Rd_readMode fl C = some C' ∧ Mo_takeMode fl M = some (v, M') ∧ px_FC C C' ∧ px_FN M M' ∧ px_OUT v C' M' n tx p := by
  obtain ⟨hC, hM, hp, h10, d, nr, nn, np, kd, g, mt, hO⟩ := h
  have fm0 : px_FN M (gm_ui M 0 16 1) := px_FN_0 (px_FN_r M) (by omega)
  obtain ⟨f, v, C1, M1, a1, a2, a3, a4, a5, a6, a7⟩ := px_num2 (lo := 0) (hi := 1) (M := gm_ui M 0 16 1) hf hC (px_TM_N hM fm0) (by rw [px_ui, if_pos rfl, if_neg (by omega)]; exact hp) (by decide) (by decide)
  have a1 : Rd_readNumber fl 0 1 C = some (nI v, C1) := a1
  have a2 : Mo_takeNumber fl 0 1 (gm_ui M 0 16 1) = some (nI f, M1) := a2
  unfold Rd_readMode Mo_takeMode
  simp only [px_lt]
  rw [a1, a2, px_2, px_2]
  have fc : px_FC C (gm_ui (gm_ui C1 4 4 (nI v)) 1 6 1) := px_FC_u (px_FC_u (px_FC_1 a3) (by omega)) (by omega)
  have fm : px_FN M (gm_ui M1 0 17 (M1.1 0 12)) := px_FN_0 (px_FN_t fm0 (px_FN_m a4)) (by omega)
  refine ⟨_, _, _, rfl, rfl, fc, fm, ?_⟩
  have cp : ∀ q f, px_CP C1 n tx q f → px_CP (gm_ui (gm_ui C1 4 4 (nI v)) 1 6 1) n tx q f := fun q f b => ⟨px_TX_k b.1 (by rw [px_ui0 _ _ _ _ _ (by omega), px_ui0 _ _ _ _ _ (by omega)]) (by rw [px_ui0 _ _ _ _ _ (by omega), px_ui0 _ _ _ _ _ (by omega)]), by rw [px_ui, if_pos rfl, if_neg (by omega), px_ui0 _ _ _ _ _ (by omega)]; exact b.2.1, b.2.2.1, by rw [px_ui, if_pos rfl, if_neg (by omega), px_ui0 _ _ _ _ _ (by omega)]; exact b.2.2.2.1, b.2.2.2.2⟩
  rcases a7 with ⟨rfl, q, s, b1, b2, b3, b4, b5, b6, b7, b8, b9⟩ | ⟨f0, f2, q, w, b1, b2, b3⟩
  · left
    obtain ⟨z0, z1, z2, z3, ⟨z4, z5, z6, z7, z8, z9⟩, ⟨z10, z11⟩, z12, z13, z14⟩ := hO
    have mk : ∀ k, 14 ≤ k → k ≠ 16 → k ≠ 17 → (gm_ui M1 0 17 (M1.1 0 12)).1 0 k = M.1 0 k := fun k k1 k2 k3 => by rw [px_ui, if_pos rfl, if_neg k3, a4.2 k (by omega), px_ui, if_pos rfl, if_neg k2]
    have mt' : ∀ t, t ≠ 0 → (gm_ui M1 0 17 (M1.1 0 12)).1 t = M.1 t := fun t t1 => by rw [px_ui0 _ _ _ _ _ t1, a4.1 t t1, px_ui0 _ _ _ _ _ t1]
    have ct : ∀ t, t ≠ 1 → t ≠ 4 → (gm_ui (gm_ui C1 4 4 (nI v)) 1 6 1).1 t = C.1 t := fun t t1 t4 => by rw [px_ui0 _ _ _ _ _ t1, px_ui0 _ _ _ _ _ t4, a3.1 t t1]
    have c4 : ∀ k, k ≠ 4 → (gm_ui (gm_ui C1 4 4 (nI v)) 1 6 1).1 4 k = C.1 4 k := fun k hk => by rw [px_ui0 _ _ _ _ _ (by omega), px_ui, if_pos rfl, if_neg hk, a3.1 4 (by omega)]
    refine ⟨rfl, q, b2, cp q 0 b1, px_TM_N hM fm, by rw [px_ui, if_pos rfl, if_neg (by omega)]; exact b3, by rw [px_ui, if_pos rfl, if_neg (by omega), b4, px_ui, if_pos rfl, if_neg (by omega)]; exact h10, d, nr, nn, np, kd, va_up g 0 v, true, z0, px_V1_mode z1 b7, fun j j1 j2 j3 => by rw [px_upn (by omega)]; exact z2 j j1 j2 j3, ?_, ⟨by rw [mk 14 (by omega) (by omega) (by omega)]; exact z4, by rw [mk 15 (by omega) (by omega) (by omega)]; exact z5, by rw [px_ui, if_pos rfl, if_pos rfl, px_ups]; exact b5, by rw [mk 18 (by omega) (by omega) (by omega)]; exact z7, by rw [mk 22 (by omega) (by omega) (by omega)]; exact z8, by rw [mk 25 (by omega) (by omega) (by omega)]; exact z9⟩, ⟨by rw [px_ui, if_pos rfl, if_pos rfl]; rfl, by rw [px_ui, if_pos rfl, if_neg (by omega), a4.2 16 (by omega), px_ui, if_pos rfl, if_pos rfl]; rfl⟩, fun r hr => by rw [mt' 4 (by omega), mt' 5 (by omega), mt' 6 (by omega), px_upn (by omega), px_upn (by omega), px_upn (by omega)]; exact z12 r hr, fun r hr => by rw [mt' 7 (by omega), mt' 8 (by omega), px_upn (by omega), px_upn (by omega)]; exact z13 r hr, fun r hr => by rw [mt' 9 (by omega)]; exact z14 r hr⟩
    obtain ⟨y1, y2, y3, y4, y5, y6, y7, y8, y9⟩ := z3
    refine ⟨by rw [c4 3 (by omega)]; exact y1, by rw [px_ui0 _ _ _ _ _ (by omega), px_ui, if_pos rfl, if_pos rfl, px_ups], by rw [c4 5 (by omega), px_upn (by omega)]; exact y3, by rw [c4 6 (by omega)]; exact y4, by rw [c4 7 (by omega)]; exact y5, by rw [c4 8 (by omega)]; exact y6, fun r hr => ?_, fun r hr => ?_, fun r hr => ?_⟩
    · rw [ct 5 (by omega) (by omega)]
      unfold px_cd
      rw [px_upn (by omega), px_upn (by omega), px_upn (by omega)]
      exact y7 r hr
    · rw [ct 6 (by omega) (by omega), px_upn (by omega), px_upn (by omega)]; exact y8 r hr
    · rw [ct 7 (by omega) (by omega), px_upn (by omega), px_upn (by omega), px_upn (by omega), px_upn (by omega)]; exact y9 r hr
  · right
    exact ⟨f, w, q, f0, by omega, rfl, cp q f b1, by rw [px_ui, if_pos rfl, if_neg (by omega), px_ui0 _ _ _ _ _ (by omega)]; exact b2, by rw [px_ui, if_pos rfl, if_neg (by omega)]; exact b3⟩
end PR3
