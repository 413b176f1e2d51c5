theorem px_n0 (q : Nat) : nI q + 0 = nI q := nI_add q 0
section PG2
variable {C M : gm_M} {d nr nn np : Nat} {kd g : Nat → Nat} {fl : Nat} {s : Nat} {sn : Nat → Nat} {ss : Nat → Bool}
theorem px_cn_s (P : Nat → Bool) (n : Nat) : px_cn P (n + 1) = px_cn P n + (P n).toNat := by simp only [px_cn]
theorem px_mc_L (hf : 1000 ≤ fl) (h : M.1 0 0 = nI d) (hd : d ≤ 4) (hS : px_Se M d s sn ss) : ∀ (m x : Nat), x ≤ 171 → 171 - x < m → Mo_manyCould_L4 fl M m (nI (px_cn (px_cb d s sn ss) x)) (nI x) = some (nI (px_cn (px_cb d s sn ss) 171)) := by
  intro m
  induction m with
  | zero => intro x _ q; omega
  | succ m ih =>
    intro x hx hm
    have e1 : ∀ y, Mo_manyCould_L4 fl M (m + 1) y (nI x) = Mo_manyCould_L4_b fl M (Mo_manyCould_L4 fl M m) y (nI x) := fun _ => rfl
    rw [e1]
    unfold Mo_manyCould_L4_b
    by_cases c : 171 ≤ x
    · rw [if_pos (show (171 : Int32) ≤ nI x from (nI_leI (a := 171) (by omega) (by omega)).mpr c), show x = 171 by omega]
    · rw [if_neg (show ¬ (171 : Int32) ≤ nI x from fun q => c ((nI_leI (a := 171) (by omega) (by omega)).mp q)), px_couldBe hf h hd (by omega) hS]
      simp only [px_1, px_lt]
      have i1 := ih (x + 1) (by omega) (by omega)
      rw [px_cn_s] at i1
      rw [show nI x + 1 = nI (x + 1) from nI_1 x]
      cases hb : px_cb d s sn ss x
      · rw [hb] at i1
        simp only [Bool.toNat_false, px_e0, if_true, px_1]
        rw [px_n0]
        exact i1
      · rw [hb] at i1
        simp only [Bool.toNat_true, px_e1, if_false, px_1]
        rw [show nI (px_cn (px_cb d s sn ss) x) + 1 = nI (px_cn (px_cb d s sn ss) x + 1) from nI_1 _]
        exact i1
theorem px_manyCould (hf : 1000 ≤ fl) (h : M.1 0 0 = nI d) (hd : d ≤ 4) (hS : px_Se M d s sn ss) : Mo_manyCould fl M = some (nI (px_cl d s sn ss).length) := by
  unfold Mo_manyCould
  have L := px_mc_L (fl := fl) hf h hd hS fl 0 (by omega) (by omega)
  have L : Mo_manyCould_L4 fl M fl 0 0 = _ := L
  rw [L, px_cl_eq, px_cn_len]
  rfl
theorem px_my_L {n : Nat} (hf : 1000 ≤ fl) (h : M.1 0 0 = nI d) (hd : d ≤ 4) (hn : n < 2 ^ 31) (hS : px_Se M d s sn ss) : ∀ (m x : Nat), x ≤ 171 → 171 - x < m → Mo_manyYes_L4 fl (nI n) M m (nI (px_cn (fun x => px_yx d x n && px_cb d s sn ss x) x)) (nI x) = some (nI (px_cn (fun x => px_yx d x n && px_cb d s sn ss x) 171)) := by
  intro m
  induction m with
  | zero => intro x _ q; omega
  | succ m ih =>
    intro x hx hm
    have e1 : ∀ y, Mo_manyYes_L4 fl (nI n) M (m + 1) y (nI x) = Mo_manyYes_L4_b fl (nI n) M (Mo_manyYes_L4 fl (nI n) M m) y (nI x) := fun _ => rfl
    rw [e1]
    unfold Mo_manyYes_L4_b
    by_cases c : 171 ≤ x
    · rw [if_pos (show (171 : Int32) ≤ nI x from (nI_leI (a := 171) (by omega) (by omega)).mpr c), show x = 171 by omega]
    · rw [if_neg (show ¬ (171 : Int32) ≤ nI x from fun q => c ((nI_leI (a := 171) (by omega) (by omega)).mp q)), px_couldBe hf h hd (by omega) hS]
      simp only [px_1, px_lt]
      have i1 := ih (x + 1) (by omega) (by omega)
      rw [px_cn_s] at i1
      rw [show nI x + 1 = nI (x + 1) from nI_1 x]
      cases hb : px_cb d s sn ss x
      · rw [hb, Bool.and_false] at i1
        simp only [Bool.toNat_false, px_e0, if_true, px_1]
        rw [px_n0]
        exact i1
      · have hd0 : 0 < d := by
          unfold px_cb at hb
          rw [Bool.and_eq_true] at hb
          exact of_decide_eq_true hb.1
        rw [hb, Bool.and_true] at i1
        simp only [Bool.toNat_true, px_e1, if_false]
        rw [px_saysOf hf h hd hd0 hn (by omega)]
        simp only [px_1]
        cases hy : px_yx d x n
        · rw [hy] at i1
          simp only [Bool.toNat_false, px_e0, if_true, px_1]
          rw [px_n0]
          exact i1
        · rw [hy] at i1
          simp only [Bool.toNat_true, px_e1, if_false, px_1]
          rw [show nI (px_cn (fun x => px_yx d x n && px_cb d s sn ss x) x) + 1 = nI (px_cn (fun x => px_yx d x n && px_cb d s sn ss x) x + 1) from nI_1 _]
          exact i1
theorem px_manyYes {n : Nat} (hf : 1000 ≤ fl) (h : M.1 0 0 = nI d) (hd : d ≤ 4) (hn : n < 2 ^ 31) (hS : px_Se M d s sn ss) : Mo_manyYes fl (nI n) M = some (nI (px_yn d (px_cl d s sn ss) n)) := by
  unfold Mo_manyYes
  have L := px_my_L (fl := fl) hf h hd hn hS fl 0 (by omega) (by omega)
  have L : Mo_manyYes_L4 fl (nI n) M fl 0 0 = _ := L
  rw [L]
  unfold px_yn
  rw [px_cl_eq, List.filter_filter, px_cn_len]
  rfl
theorem px_yn_le {L : List Nat} {n : Nat} : px_yn d L n ≤ L.length := List.length_filter_le _ _
theorem px_gp_le {L : List Nat} {n : Nat} : px_gp d L n ≤ L.length := by
  have := px_yn_le (d := d) (L := L) (n := n)
  unfold px_gp
  split <;> omega
theorem px_aq_le {L : List Nat} : ∀ n, (px_aq d L n).2 ≤ L.length
  | 0 => Nat.le_refl _
  | n + 1 => by
    simp only [px_aq]
    split
    · exact px_gp_le
    · exact px_aq_le n
theorem px_ask_L (hf : 1000 ≤ fl) (h : M.1 0 0 = nI d) (hd : d ≤ 4) (hd0 : 0 < d) (hS : px_Se M d s sn ss) : ∀ (m n : Nat), n ≤ 100 → 100 - n < m → Mo_askNext_L12 fl M (nI (px_cl d s sn ss).length) m (px_aq d (px_cl d s sn ss) n).1 (nI (px_aq d (px_cl d s sn ss) n).2) (nI n) = some (px_aq d (px_cl d s sn ss) 100).1 := by
  have hl := px_cl_len (d := d) (s := s) (sn := sn) (ss := ss)
  intro m
  induction m with
  | zero => intro x _ q; omega
  | succ m ih =>
    intro n hn hm
    have e1 : ∀ y z, Mo_askNext_L12 fl M (nI (px_cl d s sn ss).length) (m + 1) y z (nI n) = Mo_askNext_L12_b fl M (nI (px_cl d s sn ss).length) (Mo_askNext_L12 fl M (nI (px_cl d s sn ss).length) m) y z (nI n) := fun _ _ => rfl
    rw [e1]
    unfold Mo_askNext_L12_b
    by_cases c : 99 < n
    · rw [if_pos (show (99 : Int32) < nI n from (nI_ltI (a := 99) (by omega) (by omega)).mpr c), show n = 100 by omega]
    · rw [if_neg (show ¬ (99 : Int32) < nI n from fun q => c ((nI_ltI (a := 99) (by omega) (by omega)).mp q)), h, if_neg (nI_nle hd0 (by omega)), px_manyYes hf h hd (by omega) hS]
      have i1 := ih (n + 1) (by omega) (by omega)
      have hy := px_yn_le (d := d) (L := px_cl d s sn ss) (n := n)
      have hq := px_aq_le (d := d) (L := px_cl d s sn ss) n
      have hg := px_gp_le (d := d) (L := px_cl d s sn ss) (n := n)
      simp only [px_1, px_lt]
      rw [pk_sub hy, show nI n + 1 = nI (n + 1) from nI_1 n]
      have ex : (if nI (px_yn d (px_cl d s sn ss) n) ≤ nI ((px_cl d s sn ss).length - px_yn d (px_cl d s sn ss) n) then some (nI ((px_cl d s sn ss).length - px_yn d (px_cl d s sn ss) n)) else some (nI (px_yn d (px_cl d s sn ss) n))) = some (nI (px_gp d (px_cl d s sn ss) n)) := by
        unfold px_gp
        by_cases c2 : px_yn d (px_cl d s sn ss) n ≤ (px_cl d s sn ss).length - px_yn d (px_cl d s sn ss) n
        · rw [if_pos ((nI_leI (by omega) (by omega)).mpr c2)]
          by_cases c3 : px_yn d (px_cl d s sn ss) n < (px_cl d s sn ss).length - px_yn d (px_cl d s sn ss) n
          · rw [if_pos c3]
          · rw [if_neg c3, show (px_cl d s sn ss).length - px_yn d (px_cl d s sn ss) n = px_yn d (px_cl d s sn ss) n by omega]
        · rw [if_neg (fun q => c2 ((nI_leI (by omega) (by omega)).mp q)), if_neg (by omega)]
      rw [ex]
      simp only [px_1]
      by_cases c4 : px_gp d (px_cl d s sn ss) n < (px_aq d (px_cl d s sn ss) n).2
      · have c5 : ¬ nI (px_aq d (px_cl d s sn ss) n).2 ≤ nI (px_gp d (px_cl d s sn ss) n) := fun q => by have := (nI_leI (by omega) (by omega)).mp q; omega
        rw [if_neg c5, if_neg c5]
        simp only [px_1]
        have e2 : px_aq d (px_cl d s sn ss) (n + 1) = (nI n, px_gp d (px_cl d s sn ss) n) := by simp only [px_aq]; rw [if_pos c4]
        rw [e2] at i1
        exact i1
      · have c5 : nI (px_aq d (px_cl d s sn ss) n).2 ≤ nI (px_gp d (px_cl d s sn ss) n) := (nI_leI (by omega) (by omega)).mpr (by omega)
        rw [if_pos c5, if_pos c5]
        simp only [px_1]
        have e2 : px_aq d (px_cl d s sn ss) (n + 1) = px_aq d (px_cl d s sn ss) n := by simp only [px_aq]; rw [if_neg c4]
        rw [e2] at i1
        exact i1
theorem px_aq_nil : ∀ n, px_aq 0 [] n = (-1, 0)
  | 0 => rfl
  | n + 1 => by
    simp only [px_aq]
    rw [px_aq_nil n, if_neg (by omega)]
theorem px_cl_0 : px_cl 0 s sn ss = [] := by unfold px_cl; rw [if_pos rfl]
theorem px_askNext (hf : 1000 ≤ fl) (h : M.1 0 0 = nI d) (hd : d ≤ 4) (hS : px_Se M d s sn ss) : Mo_askNext fl M = some (px_aq d (px_cl d s sn ss) 100).1 := by
  unfold Mo_askNext
  rw [px_manyCould hf h hd hS]
  simp only [px_1]
  by_cases c : d = 0
  · subst c
    rw [px_cl_0, px_aq_nil]
    obtain ⟨q, hq⟩ : ∃ q, fl = q + 1 := ⟨fl - 1, by omega⟩
    have e : ∀ v, Mo_askNext_L12 fl M v fl (-1) v 0 = some (-1) := by
      intro v
      have e1 : Mo_askNext_L12 fl M v fl (-1) v 0 = Mo_askNext_L12 fl M v (q + 1) (-1) v 0 := by rw [← hq]
      rw [e1]
      show Mo_askNext_L12_b fl M v (Mo_askNext_L12 fl M v q) (-1) v 0 = some (-1)
      unfold Mo_askNext_L12_b
      rw [if_neg (show ¬ (99 : Int32) < 0 by decide), h, if_pos (show nI 0 ≤ (0 : Int32) by decide)]
    rw [e]
    rfl
  · have L := px_ask_L (fl := fl) hf h hd (by omega) hS fl 0 (by omega) (by omega)
    have L : Mo_askNext_L12 fl M (nI (px_cl d s sn ss).length) fl (-1) (nI (px_cl d s sn ss).length) 0 = _ := L
    rw [L]
    rfl
theorem px_could_L {k : Nat} {a1 : Int32} (hf : 1000 ≤ fl) (h : M.1 0 0 = nI d) (hd : d ≤ 4) (hk : k < 2 ^ 31) (hS : px_Se M d s sn ss) : ∀ (m x : Nat), x ≤ 171 → px_cn (px_cb d s sn ss) x ≤ k → 171 - x < m → (∀ y, (px_cl d s sn ss)[k]? = some y → Mo_could_L20 fl (nI k) a1 M m (nI (px_cn (px_cb d s sn ss) x)) (nI x) = (if a1 = 0 then some (nI (px_rk y)) else if a1 = 1 then some (nI (px_ra y)) else some (nI (px_rb y)))) ∧ ((px_cl d s sn ss)[k]? = none → Mo_could_L20 fl (nI k) a1 M m (nI (px_cn (px_cb d s sn ss) x)) (nI x) = some (-1)) := by
  intro m
  induction m with
  | zero => intro x _ _ q; omega
  | succ m ih =>
    intro x hx hc hm
    have e1 : ∀ y, Mo_could_L20 fl (nI k) a1 M (m + 1) y (nI x) = Mo_could_L20_b fl (nI k) a1 M (Mo_could_L20 fl (nI k) a1 M m) y (nI x) := fun _ => rfl
    rw [e1]
    unfold Mo_could_L20_b
    by_cases c : 171 ≤ x
    · rw [if_pos (show (171 : Int32) ≤ nI x from (nI_leI (a := 171) (by omega) (by omega)).mpr c)]
      have ex : x = 171 := by omega
      subst ex
      have hnone : (px_cl d s sn ss)[k]? = none := List.getElem?_eq_none (by rw [px_cl_eq, px_cn_len]; exact hc)
      exact ⟨fun y hy => by rw [hnone] at hy; exact (nomatch hy), fun _ => rfl⟩
    · rw [if_neg (show ¬ (171 : Int32) ≤ nI x from fun q => c ((nI_leI (a := 171) (by omega) (by omega)).mp q)), if_neg (nI_pos hk), px_couldBe hf h hd (by omega) hS]
      simp only [px_1, px_lt]
      have hb2 := px_cn_b (px_cb d s sn ss) x
      rw [show nI x + 1 = nI (x + 1) from nI_1 x]
      cases hb : px_cb d s sn ss x
      · simp only [Bool.toNat_false, px_e0, if_true]
        have ec : px_cn (px_cb d s sn ss) (x + 1) = px_cn (px_cb d s sn ss) x := by rw [px_cn_s, hb]; rfl
        have i1 := ih (x + 1) (by omega) (by rw [ec]; exact hc) (by omega)
        rw [ec] at i1
        exact i1
      · simp only [Bool.toNat_true, px_e1, if_false]
        have ec : px_cn (px_cb d s sn ss) (x + 1) = px_cn (px_cb d s sn ss) x + 1 := by rw [px_cn_s, hb]; rfl
        by_cases ek : px_cn (px_cb d s sn ss) x = k
        · have hsome : (px_cl d s sn ss)[k]? = some x := by rw [px_cl_eq, ← ek]; exact px_nth _ hb 171 (by omega)
          rw [if_pos (show nI (px_cn (px_cb d s sn ss) x) = nI k by rw [ek]), px_kindOf (by omega), px_aOf hf (by omega), px_bOf hf (by omega)]
          simp only [px_1]
          refine ⟨fun y hy => ?_, fun hn => by rw [hsome] at hn; exact (nomatch hn)⟩
          rw [hsome] at hy
          rw [← Option.some.inj hy]
        · rw [if_neg (fun q => ek ((nI_eq (by omega) (by omega)).mp q)), show nI (px_cn (px_cb d s sn ss) x) + 1 = nI (px_cn (px_cb d s sn ss) x + 1) from nI_1 _, ← ec]
          exact ih (x + 1) (by omega) (by rw [ec]; omega) (by omega)
def px_at (C : gm_M) (o : Nat) (L : List Nat) : Prop := ∀ i x, L[i]? = some x → C.1 89 (o + i) = nI (px_rc x)
theorem px_at_h {o x : Nat} {L : List Nat} (h : px_at C o (x :: L)) : C.1 89 o = nI (px_rc x) ∧ px_at C (o + 1) L := by
  refine ⟨h 0 x rfl, fun i y hy => ?_⟩
  have := h (i + 1) y (by rw [List.getElem?_cons_succ]; exact hy)
  rw [show o + 1 + i = o + (i + 1) by omega]
  exact this
theorem px_code_q {k a b : Nat} : px_code k a b = px_code k a b := rfl
theorem px_cs {x n : Nat} (hf : 1000 ≤ fl) (hx : x < 171) (h : px_tk C 90 d n) (hd : d ≤ 4) (hd0 : 0 < d) (hn : n < 2 ^ 31) : Ru_sayYes fl 90 (nI (px_rc x)) C = some (nI (px_yx d x n).toNat) := px_csays (by omega) h hd hd0 hn (px_rtold hx)
theorem px_gpart_L {n : Nat} (hf : 1000 ≤ fl) (ht : px_tk C 90 d n) (hd : d ≤ 4) (hn : n < 2 ^ 31) : ∀ (B : List Nat) (j c m : Nat), px_at C j B → C.1 88 2 = nI (j + B.length) → j + B.length ≤ 171 → c ≤ j → (∀ x, x ∈ B → x < 171) → (B ≠ [] → 0 < d) → B.length < m → Gs_greaterPart_L16 fl C m (nI c) (nI j) = some (nI (c + px_yn d B n)) := by
  intro B
  induction B with
  | nil =>
    intro j c m hA h2 h3 hc hB hd0 hm
    obtain ⟨m, rfl⟩ : ∃ q, m = q + 1 := ⟨m - 1, by omega⟩
    show Gs_greaterPart_L16_b fl C (Gs_greaterPart_L16 fl C m) (nI c) (nI j) = _
    unfold Gs_greaterPart_L16_b
    rw [h2, if_pos ((nI_leI (by omega) (by omega)).mpr (by simp))]
    rfl
  | cons x B ih =>
    intro j c m hA h2 h3 hc hB hd0 hm
    simp only [List.length_cons] at h2 h3 hm
    obtain ⟨m, rfl⟩ : ∃ q, m = q + 1 := ⟨m - 1, by omega⟩
    have e1 : Gs_greaterPart_L16 fl C (m + 1) (nI c) (nI j) = Gs_greaterPart_L16_b fl C (Gs_greaterPart_L16 fl C m) (nI c) (nI j) := rfl
    rw [e1]
    unfold Gs_greaterPart_L16_b
    have hx := hB x (List.mem_cons_self)
    obtain ⟨a1, a2⟩ := px_at_h hA
    rw [h2, if_neg (fun q => by have := (nI_leI (by omega) (by omega)).mp q; omega), px_ck _ (by omega) (by decide), nI_clamp (by omega), a1, px_cs hf hx ht hd (hd0 (by simp)) hn]
    simp only [px_1, px_lt]
    rw [show nI j + 1 = nI (j + 1) from nI_1 j]
    have hy : px_yn d (x :: B) n = (px_yx d x n).toNat + px_yn d B n := by
      unfold px_yn
      rw [List.filter_cons]
      cases px_yx d x n <;> simp [Nat.add_comm]
    cases hb : px_yx d x n
    · rw [hb, Bool.toNat_false, Nat.zero_add] at hy
      simp only [Bool.toNat_false, px_e0, if_true, px_1]
      rw [hy]
      exact ih (j + 1) c m a2 (by rw [h2, show j + 1 + B.length = j + (B.length + 1) by omega]) (by omega) (by omega) (fun y hy => hB y (List.mem_cons_of_mem _ hy)) (fun _ => hd0 (by simp)) (by omega)
    · rw [hb, Bool.toNat_true] at hy
      simp only [Bool.toNat_true, px_e1, if_false, px_1]
      rw [hy, ← Nat.add_assoc, show nI c + 1 = nI (c + 1) from nI_1 c]
      exact ih (j + 1) (c + 1) m a2 (by rw [h2, show j + 1 + B.length = j + (B.length + 1) by omega]) (by omega) (by omega) (fun y hy => hB y (List.mem_cons_of_mem _ hy)) (fun _ => hd0 (by simp)) (by omega)
end PG2
