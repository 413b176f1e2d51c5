def px_cd (g : Nat → Nat) (r : Nat) : Nat := px_code (g (1 + r)) (g (5 + r)) (g (9 + r))
def px_yb (B : Nat → Bool) (but : Nat) : Nat → Nat
  | 0 => 0
  | r + 1 => px_yb B but r + (if r = but then 0 else (B r).toNat)
theorem px_yb_le (B : Nat → Bool) (but : Nat) : ∀ r, px_yb B but r ≤ px_mc but r
  | 0 => Nat.le_refl _
  | r + 1 => by
    have := px_yb_le B but r
    have := px_b1 (B r)
    simp only [px_yb, px_mc]
    split <;> omega
theorem px_yb_yc {d : Nat} {g : Nat → Nat} {but n : Nat} : ∀ r, px_yb (fun i => true && px_ry d g i n) but r = px_yc d g but n r
  | 0 => rfl
  | r + 1 => by simp only [px_yb, px_yc]; rw [px_yb_yc r, Bool.true_and]
theorem px_yb_0 {B : Nat → Bool} {but : Nat} (h : ∀ r, B r = false) : ∀ r, px_yb B but r = 0
  | 0 => rfl
  | r + 1 => by simp only [px_yb, h, px_yb_0 h r]; split <;> rfl
theorem px_join_L {w nr words but : Nat} {a1 : Int32} {S : gm_M} (h7 : S.1 12 7 = nI nr) (hnr : nr ≤ 4) (hw : w < words) (hws : words ≤ 157) (hb : ∀ j, j < 4 → (nI j = a1) = (j = but)) : ∀ (m i : Nat) (y1 y2 : Int64), i ≤ nr → nr - i < m → (∀ j, j < 64 → px_bt y1 j = decide (px_yb (fun r => px_bt (S.2 (14 + r) w) j) but i = px_mc but i)) → (∀ j, j < 64 → px_bt y2 j = decide (0 < px_yb (fun r => px_bt (S.2 (14 + r) w) j) but i)) → ∃ z1 z2, Tb_joinedWord_L13 (nI w) a1 S m y1 y2 (nI (if 0 < px_mc but i then 1 else 0)) (nI i) = some (z1, z2, nI (if 0 < px_mc but nr then 1 else 0)) ∧ (∀ j, j < 64 → px_bt z1 j = decide (px_yb (fun r => px_bt (S.2 (14 + r) w) j) but nr = px_mc but nr)) ∧ (∀ j, j < 64 → px_bt z2 j = decide (0 < px_yb (fun r => px_bt (S.2 (14 + r) w) j) but nr)) := by
  intro m
  induction m with
  | zero => intro i y1 y2 _ h; omega
  | succ m ih =>
    intro i y1 y2 hi hm q1 q2
    have e : ∀ y3, Tb_joinedWord_L13 (nI w) a1 S (m + 1) y1 y2 y3 (nI i) = Tb_joinedWord_L13_b (nI w) a1 S (Tb_joinedWord_L13 (nI w) a1 S m) y1 y2 y3 (nI i) := fun _ => rfl
    rw [e]
    unfold Tb_joinedWord_L13_b
    rw [h7]
    by_cases c : nr ≤ i
    · have ei : nr = i := by omega
      subst ei
      exact ⟨y1, y2, by simp (disch := omega) only [px_lit, px_litL, px_lt, px_1, px_2, px_3, px_ck, px_rm, px_le, px_ltI, px_eq, px_ne1, nI_add, pk_mul, pk_sub, pk_div, nI_clamp, px_ui, px_ui2, px_uj1, px_uj, px_uf, px_uf2, if_pos, if_neg, if_true, if_false, ↓reduceIte], q1, q2⟩
    · by_cases eb : i = but
      · have hbt : (nI i = a1) = True := by rw [hb i (by omega)]; exact eq_true eb
        have em : px_mc but (i + 1) = px_mc but i := by simp only [px_mc]; rw [if_pos eb, Nat.add_zero]
        have ey : ∀ B : Nat → Bool, px_yb B but (i + 1) = px_yb B but i := fun B => by simp only [px_yb]; rw [if_pos eb, Nat.add_zero]
        obtain ⟨z1, z2, w1, w2⟩ := ih (i + 1) y1 y2 (by omega) (by omega) (fun j hj => by rw [q1 j hj, ey, em]) (fun j hj => by rw [q2 j hj, ey])
        refine ⟨z1, z2, ?_, w2⟩
        rw [em] at w1
        simp (disch := omega) only [px_lit, px_le, if_neg, hbt, ↓reduceIte, px_3, px_lt, nI_add]
        exact w1
      · have hbt : (nI i = a1) = False := by rw [hb i (by omega)]; exact eq_false eb
        have em : px_mc but (i + 1) = px_mc but i + 1 := by simp only [px_mc]; rw [if_neg eb]
        have ey : ∀ B : Nat → Bool, px_yb B but (i + 1) = px_yb B but i + (B i).toNat := fun B => by simp only [px_yb]; rw [if_neg eb]
        obtain ⟨z1, z2, w1, w2⟩ := ih (i + 1) (y1 &&& S.2 (14 + i) w) (y2 ||| S.2 (14 + i) w) (by omega) (by omega) (fun j hj => by
          rw [px_bt_and, q1 j hj, ey, em]
          have := px_yb_le (fun r => px_bt (S.2 (14 + r) w) j) but i
          cases hB : px_bt (S.2 (14 + i) w) j
          · simp only [hB, Bool.toNat_false, Bool.and_false, Nat.add_zero]
            exact (decide_eq_false (by omega)).symm
          · simp only [hB, Bool.toNat_true, Bool.and_true]
            exact decide_eq_decide.mpr (by omega)) (fun j hj => by
          rw [px_bt_or, q2 j hj, ey]
          cases hB : px_bt (S.2 (14 + i) w) j
          · simp only [hB, Bool.toNat_false, Bool.or_false, Nat.add_zero]
          · simp only [hB, Bool.toNat_true, Bool.or_true]
            exact (decide_eq_true (by omega)).symm)
        refine ⟨z1, z2, ?_, w2⟩
        rw [em, if_pos (by omega)] at w1
        simp (disch := omega) only [px_lit, px_le, if_neg, hbt, ↓reduceIte, px_3, px_lt, nI_add, px_ck, nI_clamp, Nat.one_mul]
        exact w1
theorem px_join {fl d w nr but : Nat} {g : Nat → Nat} {a1 : Int32} {S : gm_M} (hf : 10 ≤ fl) (hd : d ≤ 4) (h7 : S.1 12 7 = nI nr) (h8 : S.1 12 8 = nI (g 0)) (hg : g 0 ≤ 1) (hnr : nr ≤ 4) (hw : w < px_words d) (hb : ∀ j, j < 4 → (nI j = a1) = (j = but)) (hrow : ∀ r, r < nr → px_row (S.2 (14 + r)) (px_num d) (px_words d) (px_ry d g r)) : ∃ x, Tb_joinedWord fl (nI w) a1 S = some x ∧ ∀ j, j < 64 → px_bt x j = (decide (64 * w + j < px_num d) && px_lb d nr g but (64 * w + j)) := by
  have hws := px_words_le hd
  obtain ⟨z1, z2, w1, w2, w3⟩ := px_join_L (S := S) (but := but) h7 hnr hw hws hb fl 0 (-1) 0 (by omega) (by omega) (fun j hj => by rw [px_bt_m1 hj]; rfl) (fun j hj => by rw [px_bt_0]; rfl)
  have w1 : Tb_joinedWord_L13 (nI w) a1 S fl (-1) 0 0 0 = some (z1, z2, nI (if 0 < px_mc but nr then 1 else 0)) := w1
  have hcnt : ∀ j, j < 64 → px_yb (fun r => px_bt (S.2 (14 + r) w) j) but nr = if 64 * w + j < px_num d then px_yc d g but (64 * w + j) nr else 0 := by
    intro j hj
    have key : ∀ i, i ≤ nr → px_yb (fun r => px_bt (S.2 (14 + r) w) j) but i = px_yb (fun r => decide (64 * w + j < px_num d) && px_ry d g r (64 * w + j)) but i := by
      intro i
      induction i with
      | zero => intro _; rfl
      | succ i ih =>
        intro hi
        simp only [px_yb]
        rw [ih (by omega), hrow i (by omega) w j hw hj]
    rw [key nr (Nat.le_refl _)]
    by_cases c : 64 * w + j < px_num d
    · rw [if_pos c]
      simp only [decide_eq_true c]
      exact px_yb_yc nr
    · rw [if_neg c]
      exact px_yb_0 (fun r => by rw [decide_eq_false c, Bool.false_and]) nr
  unfold Tb_joinedWord
  rw [w1]
  simp only [px_3]
  rw [h8]
  by_cases c : 0 < px_mc but nr
  · rw [if_pos c]
    by_cases c2 : g 0 = 1
    · refine ⟨z2, by simp (disch := omega) only [px_lit, px_eq, if_pos, if_neg, ↓reduceIte, c2], fun j hj => ?_⟩
      rw [w3 j hj, hcnt j hj]
      unfold px_lb
      rw [decide_eq_true c, Bool.true_and, if_pos c2]
      by_cases c3 : 64 * w + j < px_num d
      · rw [if_pos c3, decide_eq_true c3, Bool.true_and]
      · rw [if_neg c3, decide_eq_false c3, Bool.false_and]; rfl
    · refine ⟨z1, by simp (disch := omega) only [px_lit, px_eq, if_neg], fun j hj => ?_⟩
      rw [w2 j hj, hcnt j hj]
      unfold px_lb
      rw [decide_eq_true c, Bool.true_and, if_neg c2]
      by_cases c3 : 64 * w + j < px_num d
      · rw [if_pos c3, decide_eq_true c3, Bool.true_and]
      · rw [if_neg c3, decide_eq_false c3, Bool.false_and]
        exact decide_eq_false (by omega)
  · rw [if_neg c]
    refine ⟨0, by simp (disch := omega) only [px_lit, px_eq, if_pos, if_neg, ↓reduceIte], fun j hj => ?_⟩
    unfold px_lb
    rw [px_bt_0, decide_eq_false c, Bool.false_and, Bool.and_false]
theorem px_bc {x : Int64} {q : Nat → Bool} (h : ∀ j, j < 64 → px_bt x j = q j) : Lg_bitCount x = some (nI (px_cn q 64)) := by
  obtain ⟨X, hX, rfl⟩ := wb_of x
  rw [pc_main X hX, pc_cn_congr (Q := q) 64 (fun j hj => by rw [← px_bt_N hj]; exact h j hj)]
theorem px_cn_cut (P : Nat → Bool) (num : Nat) : ∀ k, px_cn (fun n => decide (n < num) && P n) (num + k) = px_cn P num
  | 0 => pc_cn_congr num (fun j hj => by rw [decide_eq_true hj, Bool.true_and])
  | k + 1 => by
    rw [← Nat.add_assoc]
    simp only [px_cn]
    rw [px_cn_cut P num k, decide_eq_false (by omega), Bool.false_and]
    rfl
theorem px_cn_all (P : Nat → Bool) (d : Nat) : px_cn (fun n => decide (n < px_num d) && P n) (64 * px_words d) = px_cn P (px_num d) := by
  have : 64 * px_words d = px_num d + (64 * px_words d - px_num d) := by unfold px_words; omega
  rw [this, px_cn_cut]
theorem px_without_L {fl d nr r : Nat} {g : Nat → Nat} {S : gm_M} (hf : 10 ≤ fl) (hd : d ≤ 4) (h6 : S.1 12 6 = nI (px_words d)) (h7 : S.1 12 7 = nI nr) (h8 : S.1 12 8 = nI (g 0)) (hg : g 0 ≤ 1) (hnr : nr ≤ 4) (hr : r < 2 ^ 31) (hrow : ∀ r, r < nr → px_row (S.2 (14 + r)) (px_num d) (px_words d) (px_ry d g r)) : ∀ (m w : Nat), w ≤ px_words d → px_words d - w < m → Tb_countWithout_L4 fl (nI r) S m (nI (px_cn (fun n => decide (n < px_num d) && px_lb d nr g r n) (64 * w))) (nI w) = some (nI (px_cn (px_lb d nr g r) (px_num d))) := by
  have hws := px_words_le hd
  intro m
  induction m with
  | zero => intro w _ h; omega
  | succ m ih =>
    intro w hw hm
    show Tb_countWithout_L4_b fl (nI r) S (Tb_countWithout_L4 fl (nI r) S m) _ _ = _
    unfold Tb_countWithout_L4_b
    rw [h6]
    by_cases c : px_words d ≤ w
    · simp (disch := omega) only [px_lit, px_litL, px_lt, px_1, px_2, px_3, px_ck, px_rm, px_le, px_ltI, px_eq, px_ne1, nI_add, pk_mul, pk_sub, pk_div, nI_clamp, px_ui, px_ui2, px_uj1, px_uj, px_uf, px_uf2, if_pos, if_neg, if_true, if_false, ↓reduceIte]
      rw [show w = px_words d by omega, px_cn_all]
    · obtain ⟨x, x1, x2⟩ := px_join (g := g) (but := r) hf hd h7 h8 hg hnr (show w < px_words d by omega) (px_some hr) hrow
      have i1 := ih (w + 1) (by omega) (by omega)
      rw [show 64 * (w + 1) = 64 * w + 64 by omega, pc_cn_add] at i1
      simp (disch := omega) only [px_lit, px_le, if_neg]
      rw [x1]
      simp only [px_1]
      rw [px_bc x2]
      simp (disch := omega) only [px_1, px_lt, nI_add]
      exact i1
theorem px_without {fl d nr r : Nat} {g : Nat → Nat} {S : gm_M} (hf : 1000 ≤ fl) (hd : d ≤ 4) (h6 : S.1 12 6 = nI (px_words d)) (h7 : S.1 12 7 = nI nr) (h8 : S.1 12 8 = nI (g 0)) (hg : g 0 ≤ 1) (hnr : nr ≤ 4) (hr : r < 2 ^ 31) (hrow : ∀ r, r < nr → px_row (S.2 (14 + r)) (px_num d) (px_words d) (px_ry d g r)) : Tb_countWithout fl (nI r) S = some (nI (px_cn (px_lb d nr g r) (px_num d))) := by
  have hws := px_words_le hd
  unfold Tb_countWithout
  have L := px_without_L (fl := fl) (by omega) hd h6 h7 h8 hg hnr hr hrow fl 0 (by omega) (by omega)
  have L : Tb_countWithout_L4 fl (nI r) S fl 0 0 = _ := L
  rw [L]
  rfl
def px_TB (C : gm_M) (d nr : Nat) (g : Nat → Nat) : Prop := C.1 12 4 = nI d ∧ C.1 12 5 = nI (px_num d) ∧ C.1 12 6 = nI (px_words d) ∧ C.1 12 7 = nI nr ∧ C.1 12 8 = nI (g 0) ∧ C.1 12 9 = nI (px_cn (px_lk d nr g) (px_num d)) ∧ (∀ r, r < nr → C.1 18 r = nI (px_cd g r) ∧ px_row (C.2 (14 + r)) (px_num d) (px_words d) (px_ry d g r)) ∧ px_row (C.2 19) (px_num d) (px_words d) (px_lk d nr g)
def px_TO (C : gm_M) (d nr : Nat) (g : Nat → Nat) : Prop := C.1 12 4 = nI d ∧ C.1 12 7 = nI nr ∧ d ≤ 4 ∧ nr ≤ 4 ∧ (∀ r, r < nr → px_told (g (1 + r)) (g (5 + r)) (g (9 + r)) ∧ C.1 18 r = nI (px_cd g r) ∧ px_row (C.2 (14 + r)) (px_num d) (px_words d) (px_ry d g r))
theorem px_fol2 {fl d nr : Nat} {g : Nat → Nat} (hf : 10 ≤ fl) (hd : d ≤ 4) (hg : g 0 ≤ 1) (hnr : nr ≤ 4) : ∀ (m w : Nat) (S : gm_M), S.1 12 6 = nI (px_words d) → S.1 12 7 = nI nr → S.1 12 8 = nI (g 0) → S.1 12 9 = nI (px_cn (fun n => decide (n < px_num d) && px_lk d nr g n) (64 * w)) → (∀ r, r < nr → px_row (S.2 (14 + r)) (px_num d) (px_words d) (px_ry d g r)) → (∀ v j, v < w → j < 64 → px_bt (S.2 19 v) j = (decide (64 * v + j < px_num d) && px_lk d nr g (64 * v + j))) → w ≤ px_words d → px_words d - w < m → ∃ S', Tb_follow_L136 fl m (nI w) S = some S' ∧ (∀ t, t ≠ 12 → S'.1 t = S.1 t) ∧ (∀ k, k ≠ 9 → S'.1 12 k = S.1 12 k) ∧ S'.1 12 9 = nI (px_cn (px_lk d nr g) (px_num d)) ∧ (∀ t, t ≠ 19 → S'.2 t = S.2 t) ∧ px_row (S'.2 19) (px_num d) (px_words d) (px_lk d nr g) := by
  have hws := px_words_le hd
  intro m
  induction m with
  | zero => intro w S _ _ _ _ _ _ _ h; omega
  | succ m ih =>
    intro w S h6 h7 h8 h9 hrow hl hw hm
    have e : Tb_follow_L136 fl (m + 1) (nI w) S = Tb_follow_L136_b fl (Tb_follow_L136 fl m) (nI w) S := rfl
    rw [e]
    unfold Tb_follow_L136_b
    rw [h6]
    by_cases c : px_words d ≤ w
    · refine ⟨S, by simp (disch := omega) only [px_lit, px_litL, px_lt, px_1, px_2, px_3, px_ck, px_rm, px_le, px_ltI, px_eq, px_ne1, nI_add, pk_mul, pk_sub, pk_div, nI_clamp, px_ui, px_ui2, px_uj1, px_uj, px_uf, px_uf2, if_pos, if_neg, if_true, if_false, ↓reduceIte], fun _ _ => rfl, fun _ _ => rfl, ?_, fun _ _ => rfl, fun v j hv hj => hl v j (by omega) hj⟩
      rw [h9, show w = px_words d by omega, px_cn_all]
    · obtain ⟨x, x1, x2⟩ := px_join (g := g) (but := 99) (a1 := -1) hf hd h7 h8 hg hnr (show w < px_words d by omega) px_none hrow
      have hbc := px_bc x2
      obtain ⟨S', w1, w2, w3, w4, w5, w6⟩ := ih (w + 1) (gm_ui (gm_uj S 19 w x) 12 9 (nI (px_cn (fun n => decide (n < px_num d) && px_lk d nr g n) (64 * w) + px_cn (fun j => decide (64 * w + j < px_num d) && px_lb d nr g 99 (64 * w + j)) 64))) (by simp [px_ui, px_uj1, h6]) (by simp [px_ui, px_uj1, h7]) (by simp [px_ui, px_uj1, h8]) (by
          rw [show 64 * (w + 1) = 64 * w + 64 by omega, pc_cn_add]
          simp [px_ui]
          rfl) (fun r hr => by
          rw [px_ui2, px_uj0 _ _ _ _ _ (by omega)]
          exact hrow r hr) (fun v j hv hj => by
          rw [px_ui2, px_uj, if_pos rfl]
          by_cases ev : v = w
          · rw [if_pos ev, x2 j hj, ev]; rfl
          · rw [if_neg ev]; exact hl v j (by omega) hj) (by omega) (by omega)
      refine ⟨S', ?_, ?_, ?_, w4, ?_, w6⟩
      · simp (disch := omega) only [px_lit, px_le, if_neg]
        have x1 : Tb_joinedWord fl (nI w) (-nI 1) S = some x := x1
        rw [x1]
        simp (disch := omega) only [px_1, px_lt, px_ck, nI_clamp, px_uj, ↓reduceIte]
        rw [hbc]
        simp (disch := omega) only [px_1, px_lt, px_uj1, h9, nI_add]
        exact w1
      · intro t ht
        rw [w2 t ht, px_ui0 _ _ _ _ _ ht, px_uj1]
      · intro k hk
        rw [w3 k hk]
        simp [px_ui, px_uj1, hk]
      · intro t ht
        rw [w5 t ht, px_ui2, px_uj0 _ _ _ _ _ ht]
theorem px_code_inj {k a b k' a' b' : Nat} (h : px_told k a b) (h' : px_told k' a' b') (e : px_code k a b = px_code k' a' b') : k = k' ∧ a = a' ∧ b = b' := by
  have := px_told_b h
  have := px_told_b h'
  unfold px_code at e
  omega
theorem px_cd_lt {k a b : Nat} (h : px_told k a b) : px_code k a b < 50000 := by
  have := px_told_b h
  unfold px_code
  omega
theorem px_fol1 {fl d nr d0 nr0 : Nat} {g g0 : Nat → Nat} {x1 : Int32} (hf : 20000 ≤ fl) (hd : d ≤ 4) (hd0 : 0 < nr → 0 < d) (hnr : nr ≤ 4) (hnr0 : nr0 ≤ 4) (ht : ∀ r, r < nr → px_told (g (1 + r)) (g (5 + r)) (g (9 + r))) (ht0 : ∀ r, r < nr0 → px_told (g0 (1 + r)) (g0 (5 + r)) (g0 (9 + r))) (hx : (x1 = 0 ∧ d = d0) ∨ x1 = 1) : ∀ (m i : Nat) (S : gm_M), S.1 8 6 = nI nr → S.1 12 4 = nI d → S.1 12 5 = nI (px_num d) → S.1 12 6 = nI (px_words d) → S.1 12 7 = nI nr0 → (∀ r, r < nr → S.1 9 r = nI (px_cd g r)) → (∀ r, r < nr → r < i → S.1 18 r = nI (px_cd g r) ∧ px_row (S.2 (14 + r)) (px_num d) (px_words d) (px_ry d g r)) → (∀ r, r < nr0 → i ≤ r → S.1 18 r = nI (px_cd g0 r) ∧ px_row (S.2 (14 + r)) (px_num d0) (px_words d0) (px_ry d0 g0 r)) → i ≤ nr → nr - i < m → ∃ S', Tb_follow_L55 fl x1 m (nI i) S = some S' ∧ (∀ t, t ≠ 18 → t ≠ 20 → t ≠ 21 → S'.1 t = S.1 t) ∧ (∀ t, (t < 14 ∨ 17 < t) → S'.2 t = S.2 t) ∧ (∀ r, r < nr → S'.1 18 r = nI (px_cd g r) ∧ px_row (S'.2 (14 + r)) (px_num d) (px_words d) (px_ry d g r)) := by
  intro m
  induction m with
  | zero => intro i S _ _ _ _ _ _ _ _ _ h; omega
  | succ m ih =>
    intro i S h86 h4 h5 h6 h7 h9 hdone hold hi hm
    have e : Tb_follow_L55 fl x1 (m + 1) (nI i) S = Tb_follow_L55_b fl x1 (Tb_follow_L55 fl x1 m) (nI i) S := rfl
    rw [e]
    unfold Tb_follow_L55_b
    rw [h86]
    by_cases c : nr ≤ i
    · refine ⟨S, by simp (disch := omega) only [px_lit, px_litL, px_lt, px_1, px_2, px_3, px_ck, px_rm, px_le, px_ltI, px_eq, px_ne1, nI_add, pk_mul, pk_sub, pk_div, nI_clamp, px_ui, px_ui2, px_uj1, px_uj, px_uf, px_uf2, if_pos, if_neg, if_true, if_false, ↓reduceIte], fun _ _ _ _ => rfl, fun _ _ => rfl, fun r hr => hdone r hr (by omega)⟩
    · have hin : i < nr := by omega
      have hti := ht i hin
      obtain ⟨S1, f1, f2, f3, f4⟩ := px_fillRow (fl := fl) (r := i) (S := gm_ui S 18 i (nI (px_cd g i))) hf hd (hd0 (by omega)) (by omega) hti (by rw [px_ui0 _ _ _ _ _ (by omega)]; exact h4) (by rw [px_ui0 _ _ _ _ _ (by omega)]; exact h5) (by rw [px_ui0 _ _ _ _ _ (by omega)]; exact h6) (by simp [px_ui]; rfl)
      have q1 : ∀ t, t ≠ 18 → t ≠ 20 → t ≠ 21 → S1.1 t = S.1 t := fun t a b c => by rw [f2 t b c, px_ui0 _ _ _ _ _ a]
      have q18 : ∀ r, r ≠ i → S1.1 18 r = S.1 18 r := fun r hr => by rw [f2 18 (by omega) (by omega)]; simp [px_ui, hr]
      have q18i : S1.1 18 i = nI (px_cd g i) := by rw [f2 18 (by omega) (by omega)]; simp [px_ui]
      have q2 : ∀ t, t ≠ 14 + i → S1.2 t = S.2 t := fun t a => by rw [f3 t a]; rfl
      have anew := ih (i + 1) S1 (by rw [q1 8 (by omega) (by omega) (by omega)]; exact h86) (by rw [q1 12 (by omega) (by omega) (by omega)]; exact h4) (by rw [q1 12 (by omega) (by omega) (by omega)]; exact h5) (by rw [q1 12 (by omega) (by omega) (by omega)]; exact h6) (by rw [q1 12 (by omega) (by omega) (by omega)]; exact h7) (fun r hr => by rw [q1 9 (by omega) (by omega) (by omega)]; exact h9 r hr) (fun r hr hri => by
          by_cases er : r = i
          · subst er
            exact ⟨q18i, f4⟩
          · rw [q18 r er, q2 (14 + r) (by omega)]
            exact hdone r hr (by omega)) (fun r hr hri => by
          rw [q18 r (by omega), q2 (14 + r) (by omega)]
          exact hold r hr (by omega)) (by omega) (by omega)
      have fin : ∃ S', Tb_follow_L55 fl x1 m (nI (i + 1)) S1 = some S' ∧ (∀ t, t ≠ 18 → t ≠ 20 → t ≠ 21 → S'.1 t = S.1 t) ∧ (∀ t, (t < 14 ∨ 17 < t) → S'.2 t = S.2 t) ∧ (∀ r, r < nr → S'.1 18 r = nI (px_cd g r) ∧ px_row (S'.2 (14 + r)) (px_num d) (px_words d) (px_ry d g r)) := by
        obtain ⟨S', a1, a2, a3, a4⟩ := anew
        exact ⟨S', a1, fun t a b c => by rw [a2 t a b c, q1 t a b c], fun t a => by rw [a3 t a, q2 t (by omega)], a4⟩
      obtain ⟨S', a1, a2⟩ := fin
      have h9i := h9 i hin
      have hcd : px_cd g i < 50000 := px_cd_lt hti
      rcases hx with ⟨rfl, hdd⟩ | rfl
      · by_cases c2 : nr0 ≤ i
        · refine ⟨S', ?_, a2⟩
          simp (disch := omega) only [px_lit, px_le, if_neg, if_pos, ↓reduceIte, h7, px_ck, nI_clamp, px_lt, h9i]
          rw [f1]
          simp (disch := omega) only [px_1, px_lt, nI_add, ↓reduceIte, if_pos]
          exact a1
        · have ho := hold i (by omega) (Nat.le_refl _)
          have hcd0 : px_cd g0 i < 50000 := px_cd_lt (ht0 i (by omega))
          by_cases c3 : px_cd g0 i = px_cd g i
          ·
            obtain ⟨k1, k2, k3⟩ := px_code_inj (ht0 i (by omega)) hti c3
            have hry : px_ry d0 g0 i = px_ry d g i := by
              funext n
              unfold px_ry
              rw [k1, k2, k3, hdd]
            have keep := ih (i + 1) S h86 h4 h5 h6 h7 h9 (fun r hr hri => by
                by_cases er : r = i
                · subst er
                  rw [← c3, ← hry, hdd]
                  exact ho
                · exact hdone r hr (by omega)) (fun r hr hri => hold r hr (by omega)) (by omega) (by omega)
            obtain ⟨S2, b1, b2⟩ := keep
            refine ⟨S2, ?_, b2⟩
            simp (disch := omega) only [px_lit, px_le, if_neg, ↓reduceIte, h7, px_ck, nI_clamp, px_lt, h9i, ho.1, c3, px_1, nI_add]
            exact b1
          · refine ⟨S', ?_, a2⟩
            simp (disch := omega) only [px_lit, px_le, if_neg, ↓reduceIte, h7, px_ck, nI_clamp, px_lt, h9i, ho.1, px_eq]
            rw [f1]
            simp (disch := omega) only [px_1, px_lt, nI_add]
            exact a1
      · refine ⟨S', ?_, a2⟩
        simp (disch := omega) only [px_lit, px_le, px_eq, if_neg, ↓reduceIte, h7, px_ck, nI_clamp, px_lt, h9i]
        rw [f1]
        simp (disch := omega) only [px_1, px_lt, nI_add]
        exact a1
theorem px_follow {fl d nr d0 nr0 : Nat} {g g0 : Nat → Nat} {S : gm_M} (hf : 20000 ≤ fl) (hd : d ≤ 4) (hd0 : 0 < nr → 0 < d) (hnr : nr ≤ 4) (hg : g 0 ≤ 1) (ht : ∀ r, r < nr → px_told (g (1 + r)) (g (5 + r)) (g (9 + r))) (hO : px_TO S d0 nr0 g0) (h3 : S.1 8 3 = nI d) (h4 : S.1 8 4 = nI (g 0)) (h6 : S.1 8 6 = nI nr) (h9 : ∀ r, r < nr → S.1 9 r = nI (px_cd g r)) : ∃ S', Tb_follow fl S = some S' ∧ px_TB S' d nr g ∧ (∀ t, t ≠ 12 → t ≠ 18 → t ≠ 20 → t ≠ 21 → S'.1 t = S.1 t) ∧ (∀ t, (t < 14 ∨ 19 < t) → S'.2 t = S.2 t) := by
  obtain ⟨o1, o2, o3, o4, o5⟩ := hO
  have hws := px_words_le hd
  have hnum := px_num_le hd
  have x5 : (if ((nI (px_num d) + 63) / 64 : Int32) < 157 then (nI (px_num d) + 63) / 64 else (157 : Int32)) = nI (px_words d) := by
    have e1 : ((nI (px_num d) + 63) / 64 : Int32) = nI (px_words d) := by
      show ((nI (px_num d) + nI 63) / nI 64 : Int32) = _
      rw [nI_add, pk_div (by omega) (by decide) (by decide)]
      rfl
    rw [e1]
    by_cases c : px_words d < 157
    · rw [if_pos (show nI (px_words d) < (157 : Int32) from (nI_ltI (b := 157) (by omega) (by omega)).mpr c)]
    · rw [if_neg (show ¬ nI (px_words d) < (157 : Int32) from fun q => c ((nI_ltI (a := px_words d) (b := 157) (by omega) (by omega)).mp q))]
      show nI 157 = _
      rw [show px_words d = 157 by omega]
  have pre : ∀ S6 : gm_M, S6 = gm_ui (gm_ui (gm_ui S 12 4 (nI d)) 12 5 (nI (px_num d))) 12 6 (nI (px_words d)) → ∀ x1 : Int32, ((x1 = 0 ∧ d = d0) ∨ x1 = 1) → ∃ S', gm_bp1 (Tb_follow_L55 fl x1 fl 0 S6) (fun S9 => gm_lt (α := gm_M) (gm_ui S9 12 7 (S9.1 8 6)) fun S30 => gm_lt (α := gm_M) (gm_ui S30 12 8 (S30.1 8 4)) fun S31 => gm_lt (α := gm_M) (gm_ui S31 12 9 0) fun S32 => gm_bp1 (Tb_follow_L136 fl fl 0 S32) fun S35 => some S35) = some S' ∧ px_TB S' d nr g ∧ (∀ t, t ≠ 12 → t ≠ 18 → t ≠ 20 → t ≠ 21 → S'.1 t = S.1 t) ∧ (∀ t, (t < 14 ∨ 19 < t) → S'.2 t = S.2 t) := by
    intro S6 e6 x1 hx
    have q : ∀ t, t ≠ 12 → S6.1 t = S.1 t := fun t h => by rw [e6, px_ui0 _ _ _ _ _ h, px_ui0 _ _ _ _ _ h, px_ui0 _ _ _ _ _ h]
    have q2 : S6.2 = S.2 := by rw [e6]; rfl
    obtain ⟨S9, a1, a2, a3, a4⟩ := px_fol1 (fl := fl) (d := d) (nr := nr) (d0 := d0) (nr0 := nr0) (g := g) (g0 := g0) (x1 := x1) hf hd hd0 hnr o4 ht (fun r hr => (o5 r hr).1) hx fl 0 S6 (by rw [q 8 (by omega)]; exact h6) (by rw [e6]; simp [px_ui]) (by rw [e6]; simp [px_ui]) (by rw [e6]; simp [px_ui]) (by rw [e6]; simp [px_ui, o2]) (fun r hr => by rw [q 9 (by omega)]; exact h9 r hr) (fun r _ h => by omega) (fun r hr _ => by rw [q 18 (by omega), q2]; exact (o5 r hr).2) (by omega) (by omega)
    have a1 : Tb_follow_L55 fl x1 fl 0 S6 = some S9 := a1
    have r8 : S9.1 8 = S.1 8 := by rw [a2 8 (by omega) (by omega) (by omega), q 8 (by omega)]
    have r12 : S9.1 12 = S6.1 12 := a2 12 (by omega) (by omega) (by omega)
    obtain ⟨S', b1, b2, b3, b4, b5, b6⟩ := px_fol2 (fl := fl) (d := d) (nr := nr) (g := g) (by omega) hd hg hnr fl 0 (gm_ui (gm_ui (gm_ui S9 12 7 (nI nr)) 12 8 (nI (g 0))) 12 9 0) (by simp [px_ui, r12, e6]) (by simp [px_ui]) (by simp [px_ui]) (by simp [px_ui]; rfl) (fun r hr => by simp only [px_ui2]; exact (a4 r hr).2) (fun v j h => by omega) (by omega) (by omega)
    have b1 : Tb_follow_L136 fl fl 0 (gm_ui (gm_ui (gm_ui S9 12 7 (nI nr)) 12 8 (nI (g 0))) 12 9 0) = some S' := b1
    refine ⟨S', ?_, ⟨?_, ?_, ?_, ?_, ?_, b4, ?_, b6⟩, ?_, ?_⟩
    · rw [a1]
      simp only [px_1, px_lt]
      rw [r8, h6]
      have e8 : (gm_ui S9 12 7 (nI nr)).1 8 4 = nI (g 0) := by rw [px_ui0 _ _ _ _ _ (by omega), r8, h4]
      rw [e8, b1]
      rfl
    · rw [b3 4 (by omega)]; simp [px_ui, r12, e6]
    · rw [b3 5 (by omega)]; simp [px_ui, r12, e6]
    · rw [b3 6 (by omega)]; simp [px_ui, r12, e6]
    · rw [b3 7 (by omega)]; simp [px_ui]
    · rw [b3 8 (by omega)]; simp [px_ui]
    · intro r hr
      rw [b2 18 (by omega), b5 (14 + r) (by omega)]
      simp only [px_ui2]
      refine ⟨?_, (a4 r hr).2⟩
      rw [px_ui0 _ _ _ _ _ (by omega), px_ui0 _ _ _ _ _ (by omega), px_ui0 _ _ _ _ _ (by omega)]
      exact (a4 r hr).1
    · intro t t1 t2 t3 t4
      rw [b2 t t1, px_ui0 _ _ _ _ _ t1, px_ui0 _ _ _ _ _ t1, px_ui0 _ _ _ _ _ t1, a2 t t2 t3 t4, q t t1]
    · intro t ht
      rw [b5 t (by omega)]
      simp only [px_ui2]
      rw [a3 t (by omega), q2]
  unfold Tb_follow
  rw [h3, o1]
  have nb : Tr_numbers fl 8 (gm_ui S 12 4 (nI d)) = some (nI (px_num d)) := px_numbers fl 8 d _ (by omega) hd (by rw [px_ui0 _ _ _ _ _ (by omega)]; exact h3)
  have e5 : (gm_ui (gm_ui S 12 4 (nI d)) 12 5 (nI (px_num d))).1 12 5 = nI (px_num d) := by simp [px_ui]
  by_cases c : d0 = d
  · rw [if_pos (by rw [c])]
    simp only [px_1, px_lt]
    rw [nb]
    simp only [px_1]
    rw [e5, x5]
    exact pre _ rfl 0 (Or.inl ⟨rfl, c.symm⟩)
  · rw [if_neg (fun q => c ((nI_eq (by omega) (by omega)).mp q))]
    simp only [px_1, px_lt]
    rw [nb]
    simp only [px_1]
    rw [e5, x5]
    exact pre _ rfl 1 (Or.inr rfl)
theorem px_TB_TO {S : gm_M} {d nr : Nat} {g : Nat → Nat} (h : px_TB S d nr g) (hd : d ≤ 4) (hnr : nr ≤ 4) (ht : ∀ r, r < nr → px_told (g (1 + r)) (g (5 + r)) (g (9 + r))) : px_TO S d nr g := ⟨h.1, h.2.2.2.1, hd, hnr, fun r hr => ⟨ht r hr, h.2.2.2.2.2.2.1 r hr⟩⟩
theorem px_clk {S : gm_M} {d nr n : Nat} {g : Nat → Nat} (h : px_TB S d nr g) (hd : d ≤ 4) (hn : n < 2 ^ 31) : Tb_isLucky (nI n) S = some (nI (decide (n < px_num d) && px_lk d nr g n).toNat) := by
  have hws := px_words_le hd
  have hnum := px_num_le hd
  unfold Tb_isLucky
  rw [h.2.1]
  by_cases c : n < px_num d
  · have hs6 : nI n >>> (nI 6 &&& nI 31) = nI (n / 64) := px_shr6 hn
    have ha6 : nI n &&& nI 63 = nI (n % 64) := px_and63 hn
    have hw : n / 64 < px_words d := by unfold px_words; omega
    have hb := h.2.2.2.2.2.2.2 (n / 64) (n % 64) hw (Nat.mod_lt _ (by decide))
    have ht := px_bt_test (S.2 19 (n / 64)) (k := n % 64) (Nat.mod_lt _ (by decide))
    rw [show 64 * (n / 64) + n % 64 = n by omega, decide_eq_true c, Bool.true_and] at hb
    rw [decide_eq_true c, Bool.true_and, if_neg (nI_pos hn), if_neg (by rw [nI_leI (by omega) hn]; omega)]
    have hs6 : nI n >>> ((6 : Int32) &&& 31) = nI (n / 64) := hs6
    have ha6 : nI n &&& (63 : Int32) = nI (n % 64) := ha6
    rw [hs6, ha6, px_ck _ (by omega) (by decide), nI_clamp (by omega)]
    cases hl : px_lk d nr g n
    · rw [hl] at hb
      rw [if_pos (by rw [ht]; exact hb)]; rfl
    · rw [hl] at hb
      rw [if_neg (by rw [ht, hb]; decide)]; rfl
  · rw [decide_eq_false c, Bool.false_and, if_neg (nI_pos hn), if_pos (by rw [nI_leI (by omega) hn]; omega)]
    rfl
