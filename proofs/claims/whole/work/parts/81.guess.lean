theorem px_rt : ∀ x : Fin 171, px_tb (px_rk x.1) (px_ra x.1) (px_rb x.1) = true := by decide +kernel
theorem px_rtold {x : Nat} (h : x < 171) : px_told (px_rk x) (px_ra x) (px_rb x) := px_tb_o (px_rt ⟨x, h⟩)
theorem px_rc_lt {x : Nat} (h : x < 171) : px_rc x < 50000 := px_cd_lt (px_rtold h)
theorem px_cn_len (P : Nat → Bool) : ∀ n, ((List.range n).filter P).length = px_cn P n
  | 0 => rfl
  | n + 1 => by
    rw [List.range_succ, List.filter_append, List.length_append, px_cn_len P n]
    simp only [px_cn]
    cases h : P n <;> simp [h]
theorem px_nth (P : Nat → Bool) {x : Nat} (hx : P x = true) : ∀ n, x < n → ((List.range n).filter P)[px_cn P x]? = some x
  | 0, h => by omega
  | n + 1, h => by
    rw [List.range_succ, List.filter_append]
    by_cases e : x = n
    · subst e
      rw [List.getElem?_append_right (by rw [px_cn_len]; exact Nat.le_refl _), px_cn_len, Nat.sub_self]
      simp [hx]
    · have i1 := px_nth P hx n (by omega)
      have : px_cn P x < ((List.range n).filter P).length := by
        rcases Nat.lt_or_ge (px_cn P x) ((List.range n).filter P).length with q | q
        · exact q
        · rw [List.getElem?_eq_none q] at i1; exact nomatch i1
      rw [List.getElem?_append_left this]
      exact i1
def px_fit (d : Nat) (sn : Nat → Nat) (ss : Nat → Bool) (x i : Nat) : Bool := px_yx d x (sn i) == ss i
def px_al (f : Nat → Bool) : Nat → Bool
  | 0 => true
  | j + 1 => px_al f j && f j
theorem px_al_all (f : Nat → Bool) : ∀ j, (List.range j).all f = px_al f j
  | 0 => rfl
  | j + 1 => by rw [List.range_succ, List.all_append, px_al_all f j]; simp [px_al]
theorem px_al_f {f : Nat → Bool} {j : Nat} (h : px_al f j = false) : ∀ k, px_al f (j + k) = false
  | 0 => h
  | k + 1 => by rw [← Nat.add_assoc]; simp only [px_al]; rw [px_al_f h k]; rfl
theorem px_al_c {f f' : Nat → Bool} : ∀ j, (∀ i, i < j → f i = f' i) → px_al f j = px_al f' j
  | 0, _ => rfl
  | j + 1, h => by simp only [px_al]; rw [px_al_c j (fun i hi => h i (by omega)), h j (by omega)]
def px_cb (d s : Nat) (sn : Nat → Nat) (ss : Nat → Bool) (x : Nat) : Bool := decide (0 < d) && px_al (px_fit d sn ss x) s
theorem px_cl_eq (d s : Nat) (sn : Nat → Nat) (ss : Nat → Bool) : px_cl d s sn ss = (List.range 171).filter (px_cb d s sn ss) := by
  unfold px_cl
  by_cases c : d = 0
  · rw [if_pos c]
    symm
    apply List.filter_eq_nil_iff.mpr
    intro a _
    unfold px_cb
    rw [decide_eq_false (by omega)]
    simp
  · rw [if_neg c]
    congr 1
    funext x
    unfold px_cb
    rw [decide_eq_true (by omega), Bool.true_and, ← px_al_all]
    rfl
theorem px_cl_mem {d s : Nat} {sn : Nat → Nat} {ss : Nat → Bool} {x : Nat} (h : x ∈ px_cl d s sn ss) : x < 171 := by
  rw [px_cl_eq] at h
  exact List.mem_range.mp (List.mem_filter.mp h).1
theorem px_cl_len {d s : Nat} {sn : Nat → Nat} {ss : Nat → Bool} : (px_cl d s sn ss).length ≤ 171 := by
  rw [px_cl_eq, px_cn_len]; exact px_cn_b _ _
theorem px_cl_d {d s : Nat} {sn : Nat → Nat} {ss : Nat → Bool} {x : Nat} (h : x ∈ px_cl d s sn ss) : 0 < d := by
  rw [px_cl_eq] at h
  have := (List.mem_filter.mp h).2
  unfold px_cb at this
  rw [Bool.and_eq_true] at this
  exact of_decide_eq_true this.1
theorem px_rest_L : ∀ (n m a l : Nat), l < n → n ≤ m → 1 ≤ a → a + l < 1000 → Mo_restOf_L7 m (nI a) (nI l) = some (nI (px_rs n a l).1, nI (px_rs n a l).2) := by
  intro n
  induction n with
  | zero => intro m a l h; omega
  | succ n ih =>
    intro m a l h1 h2 h3 h4
    obtain ⟨m, rfl⟩ : ∃ q, m = q + 1 := ⟨m - 1, by omega⟩
    have e1 : Mo_restOf_L7 (m + 1) (nI a) (nI l) = Mo_restOf_L7_b (Mo_restOf_L7 m) (nI a) (nI l) := rfl
    rw [e1]
    unfold Mo_restOf_L7_b
    simp only [px_rs]
    by_cases c : l < a
    · rw [if_pos ((nI_ltI (by omega) (by omega)).mpr c), if_pos c]
    · rw [if_neg (fun q => c ((nI_ltI (by omega) (by omega)).mp q)), if_neg c]
      simp only [px_lt]
      rw [pk_sub (by omega), show nI a + 1 = nI (a + 1) from nI_1 a]
      exact ih m (a + 1) (l - a) (by omega) (by omega) (by omega) (by omega)
theorem px_rs_b : ∀ (n a l : Nat), l < n → 1 ≤ a → a + l < 1000 → (px_rs n a l).1 < 1000 ∧ (px_rs n a l).2 < 1000
  | 0, a, l, h, _, _ => by omega
  | n + 1, a, l, h, h1, h2 => by
    simp only [px_rs]
    by_cases c : l < a
    · rw [if_pos c]; exact ⟨by omega, by omega⟩
    · rw [if_neg c]; exact px_rs_b n (a + 1) (l - a) (by omega) (by omega) (by omega)
section PG
variable {C M : gm_M} {d nr nn np : Nat} {kd g : Nat → Nat} {fl : Nat}
theorem px_kindOf {x : Nat} (h : x < 171) : Mo_kindOf (nI x) = some (nI (px_rk x)) := by
  unfold Mo_kindOf px_rk
  by_cases c1 : x < 37
  · rw [if_pos c1]; simp (disch := omega) only [px_lit, px_litL, px_lt, px_1, px_2, px_3, px_ck, px_rm, px_le, px_ltI, px_eq, px_ne1, nI_add, pk_mul, pk_sub, pk_div, nI_clamp, px_ui, px_ui2, px_uj1, px_uj, px_uf, px_uf2, if_pos, if_neg, if_true, if_false, ↓reduceIte]
  · by_cases c2 : x < 40
    · rw [if_neg c1, if_pos c2]; simp (disch := omega) only [px_lit, px_litL, px_lt, px_1, px_2, px_3, px_ck, px_rm, px_le, px_ltI, px_eq, px_ne1, nI_add, pk_mul, pk_sub, pk_div, nI_clamp, px_ui, px_ui2, px_uj1, px_uj, px_uf, px_uf2, if_pos, if_neg, if_true, if_false, ↓reduceIte]
    · by_cases c3 : x < 90
      · rw [if_neg c1, if_neg c2, if_pos c3]; simp (disch := omega) only [px_lit, px_litL, px_lt, px_1, px_2, px_3, px_ck, px_rm, px_le, px_ltI, px_eq, px_ne1, nI_add, pk_mul, pk_sub, pk_div, nI_clamp, px_ui, px_ui2, px_uj1, px_uj, px_uf, px_uf2, if_pos, if_neg, if_true, if_false, ↓reduceIte]
      · by_cases c4 : x < 167
        · rw [if_neg c1, if_neg c2, if_neg c3, if_pos c4]; simp (disch := omega) only [px_lit, px_litL, px_lt, px_1, px_2, px_3, px_ck, px_rm, px_le, px_ltI, px_eq, px_ne1, nI_add, pk_mul, pk_sub, pk_div, nI_clamp, px_ui, px_ui2, px_uj1, px_uj, px_uf, px_uf2, if_pos, if_neg, if_true, if_false, ↓reduceIte]
        · rw [if_neg c1, if_neg c2, if_neg c3, if_neg c4]; simp (disch := omega) only [px_lit, px_litL, px_lt, px_1, px_2, px_3, px_ck, px_rm, px_le, px_ltI, px_eq, px_ne1, nI_add, pk_mul, pk_sub, pk_div, nI_clamp, px_ui, px_ui2, px_uj1, px_uj, px_uf, px_uf2, if_pos, if_neg, if_true, if_false, ↓reduceIte]
theorem px_restOf {x : Nat} (hf : 1000 ≤ fl) (h1 : 90 ≤ x) (h2 : x < 167) : Mo_restOf fl (nI x) = some (nI (100 * (px_rs 80 2 (x - 90)).1 + (px_rs 80 2 (x - 90)).2)) := by
  unfold Mo_restOf
  simp only [px_lt]
  rw [show nI x - 90 = nI (x - 90) from pk_sub (b := 90) h1, show (2 : Int32) = nI 2 from rfl, px_rest_L 80 fl 2 (x - 90) (by omega) (by omega) (by omega) (by omega)]
  simp only [px_2]
  rw [show (100 : Int32) = nI 100 from rfl, pk_mul, nI_add]
theorem px_rs_r : ∀ l : Fin 77, (px_rs 80 2 l.1).2 < 100 := by decide +kernel
theorem px_aOf {x : Nat} (hf : 1000 ≤ fl) (h : x < 171) : Mo_aOf fl (nI x) = some (nI (px_ra x)) := by
  unfold Mo_aOf
  rw [px_kindOf h]
  simp only [px_1]
  unfold px_rk px_ra
  by_cases c1 : x < 37
  · rw [if_pos c1, if_pos c1]; rfl
  · by_cases c2 : x < 40
    · rw [if_neg c1, if_pos c2, if_neg c1, if_pos c2, if_neg (show ¬ nI 1 = (0 : Int32) by decide), if_pos (show nI 1 = (1 : Int32) from rfl), show nI x - 37 = nI (x - 37) from pk_sub (b := 37) (by omega)]
    · by_cases c3 : x < 90
      · rw [if_neg c1, if_neg c2, if_pos c3, if_neg c1, if_neg c2, if_pos c3, if_neg (show ¬ nI 2 = (0 : Int32) by decide), if_neg (show ¬ nI 2 = (1 : Int32) by decide), if_pos (show nI 2 = (2 : Int32) from rfl), show nI x - 40 = nI (x - 40) from pk_sub (b := 40) (by omega), show (5 : Int32) = nI 5 from rfl, pk_div (by omega) (by decide) (by decide)]
      · by_cases c4 : x < 167
        · have hb := px_rs_b 80 2 (x - 90) (by omega) (by omega) (by omega)
          have hr := px_rs_r ⟨x - 90, by omega⟩
          dsimp only at hr
          rw [if_neg c1, if_neg c2, if_neg c3, if_pos c4, if_neg c1, if_neg c2, if_neg c3, if_pos c4, if_neg (show ¬ nI 3 = (0 : Int32) by decide), if_neg (show ¬ nI 3 = (1 : Int32) by decide), if_neg (show ¬ nI 3 = (2 : Int32) by decide), if_pos (show nI 3 = (3 : Int32) from rfl), px_restOf hf (by omega) c4]
          simp only [px_1]
          rw [show (100 : Int32) = nI 100 from rfl, pk_div (by omega) (by decide) (by decide), show (100 * (px_rs 80 2 (x - 90)).1 + (px_rs 80 2 (x - 90)).2) / 100 = (px_rs 80 2 (x - 90)).1 by omega]
        · rw [if_neg c1, if_neg c2, if_neg c3, if_neg c4, if_neg c1, if_neg c2, if_neg c3, if_neg c4, if_neg (show ¬ nI 4 = (0 : Int32) by decide), if_neg (show ¬ nI 4 = (1 : Int32) by decide), if_neg (show ¬ nI 4 = (2 : Int32) by decide), if_neg (show ¬ nI 4 = (3 : Int32) by decide), show nI x - 167 = nI (x - 167) from pk_sub (b := 167) (by omega)]
theorem px_bOf {x : Nat} (hf : 1000 ≤ fl) (h : x < 171) : Mo_bOf fl (nI x) = some (nI (px_rb x)) := by
  unfold Mo_bOf
  rw [px_kindOf h]
  simp only [px_1]
  unfold px_rk px_rb
  by_cases c1 : x < 37
  · rw [if_pos c1, if_pos (show x < 40 by omega)]; rfl
  · by_cases c2 : x < 40
    · rw [if_neg c1, if_pos c2, if_pos c2]; rfl
    · by_cases c3 : x < 90
      · rw [if_neg c1, if_neg c2, if_pos c3, if_neg c2, if_pos c3, if_pos (show nI 2 = (2 : Int32) from rfl), show nI x - 40 = nI (x - 40) from pk_sub (b := 40) (by omega), show (5 : Int32) = nI 5 from rfl, px_rm (by omega) (by decide) (by decide)]
      · by_cases c4 : x < 167
        · have hb := px_rs_b 80 2 (x - 90) (by omega) (by omega) (by omega)
          have hr := px_rs_r ⟨x - 90, by omega⟩
          dsimp only at hr
          rw [if_neg c1, if_neg c2, if_neg c3, if_pos c4, if_neg c2, if_neg c3, if_pos c4, if_neg (show ¬ nI 3 = (2 : Int32) by decide), if_pos (show nI 3 = (3 : Int32) from rfl), px_restOf hf (by omega) c4]
          simp only [px_1]
          rw [show (100 : Int32) = nI 100 from rfl, px_rm (by omega) (by decide) (by decide), show (100 * (px_rs 80 2 (x - 90)).1 + (px_rs 80 2 (x - 90)).2) % 100 = (px_rs 80 2 (x - 90)).2 by omega]
        · rw [if_neg c1, if_neg c2, if_neg c3, if_neg c4, if_neg c2, if_neg c3, if_neg c4]; rfl
theorem px_saysOf {x n : Nat} (hf : 1000 ≤ fl) (h : M.1 0 0 = nI d) (hd : d ≤ 4) (hd0 : 0 < d) (hn : n < 2 ^ 31) (hx : x < 171) : Mo_saysOf fl (nI x) (nI n) M = some (nI (px_yx d x n).toNat) := by
  unfold Mo_saysOf
  rw [px_kindOf hx, px_aOf hf hx, px_bOf hf hx]
  simp only [px_1]
  rw [px_msays (by omega) h hd hd0 hn (px_rtold hx)]
  simp only [px_1, px_nb, if_true]
  rfl
def px_Se (M : gm_M) (d s : Nat) (sn : Nat → Nat) (ss : Nat → Bool) : Prop := s ≤ 8 ∧ M.1 0 29 = nI s ∧ ∀ i, i < s → sn i < px_num d ∧ M.1 11 i = nI (sn i) ∧ M.1 12 i = nI (ss i).toNat
theorem px_beq {a b : Bool} : (nI a.toNat = nI b.toNat) = ((a == b) = true) := by cases a <;> cases b <;> decide
theorem px_cb_L {s x : Nat} {sn : Nat → Nat} {ss : Nat → Bool} (hf : 1000 ≤ fl) (h : M.1 0 0 = nI d) (hd : d ≤ 4) (hd0 : 0 < d) (hx : x < 171) (hS : px_Se M d s sn ss) : ∀ (m j : Nat), j ≤ s → s - j < m → Mo_couldBe_L15 fl (nI x) M m (nI (px_al (px_fit d sn ss x) j).toNat) (nI j) = some (nI (px_al (px_fit d sn ss x) s).toNat) := by
  obtain ⟨h8, h29, hs⟩ := hS
  have hnum := px_num_le hd
  intro m
  induction m with
  | zero => intro j _ q; omega
  | succ m ih =>
    intro j hj hm
    have e1 : ∀ y, Mo_couldBe_L15 fl (nI x) M (m + 1) y (nI j) = Mo_couldBe_L15_b fl (nI x) M (Mo_couldBe_L15 fl (nI x) M m) y (nI j) := fun _ => rfl
    rw [e1]
    unfold Mo_couldBe_L15_b
    rw [h29]
    by_cases c : s ≤ j
    · rw [if_pos ((nI_leI (by omega) (by omega)).mpr c), show j = s by omega]
    · rw [if_neg (fun q => c ((nI_leI (by omega) (by omega)).mp q))]
      cases hb : px_al (px_fit d sn ss x) j
      · have := px_al_f hb (s - j)
        rw [show j + (s - j) = s by omega] at this
        rw [this]; rfl
      · obtain ⟨q1, q2, q3⟩ := hs j (by omega)
        have i1 := ih (j + 1) (by omega) (by omega)
        rw [if_neg (show ¬ nI true.toNat = (0 : Int32) by decide), px_ck _ (by omega) (by decide), nI_clamp (by omega), q2, q3, px_saysOf hf h hd hd0 (by omega) hx]
        simp only [px_1, px_lt]
        rw [px_ck _ (by omega) (by decide), show nI j + 1 = nI (j + 1) from nI_1 j]
        have e2 : px_al (px_fit d sn ss x) (j + 1) = (px_yx d x (sn j) == ss j) := by simp only [px_al]; rw [hb, Bool.true_and]; rfl
        rw [e2] at i1
        by_cases cc : nI (px_yx d x (sn j)).toNat = nI (ss j).toNat
        · rw [if_pos cc]
          rw [px_beq] at cc
          rw [cc] at i1
          exact i1
        · rw [if_neg cc]
          rw [px_beq, Bool.not_eq_true] at cc
          rw [cc] at i1
          exact i1
theorem px_couldBe {s x : Nat} {sn : Nat → Nat} {ss : Nat → Bool} (hf : 1000 ≤ fl) (h : M.1 0 0 = nI d) (hd : d ≤ 4) (hx : x < 171) (hS : px_Se M d s sn ss) : Mo_couldBe fl (nI x) M = some (nI (px_cb d s sn ss x).toNat) := by
  unfold Mo_couldBe px_cb
  rw [h]
  by_cases c : d = 0
  · subst c
    rw [if_pos (show nI 0 ≤ (0 : Int32) by decide), decide_eq_false (by omega), Bool.false_and]
    simp only [px_1]
    have e : Mo_couldBe_L15 fl (nI x) M fl 0 0 = some 0 := by
      obtain ⟨q, rfl⟩ : ∃ q, fl = q + 1 := ⟨fl - 1, by omega⟩
      show Mo_couldBe_L15_b (q + 1) (nI x) M (Mo_couldBe_L15 (q + 1) (nI x) M q) 0 0 = some 0
      unfold Mo_couldBe_L15_b
      split
      · rfl
      · rfl
    rw [e]; rfl
  · rw [if_neg (nI_nle (by omega) (by omega)), decide_eq_true (by omega), Bool.true_and]
    simp only [px_1]
    have L := px_cb_L (fl := fl) hf h hd (by omega) hx hS fl 0 (by omega) (by have := hS.1; omega)
    have L : Mo_couldBe_L15 fl (nI x) M fl 1 0 = _ := L
    rw [L]
    simp only [px_1, px_nb, if_true]
end PG
