section PG3
variable {C M : gm_M} {d : Nat} {fl : Nat} {s : Nat} {sn : Nat → Nat} {ss : Nat → Bool}
def px_GC (C : gm_M) (d : Nat) (L : List Nat) : Prop := C.1 88 4 = nI d ∧ C.1 88 2 = nI L.length ∧ px_at C 0 L ∧ L.length ≤ 171 ∧ (∀ x, x ∈ L → x < 171) ∧ (L ≠ [] → 0 < d)
theorem px_tk_k {S S' : gm_M} {t n : Nat} (h : px_tk S t d n) (h0 : S'.1 t = S.1 t) (h1 : S'.1 (t + 1) = S.1 (t + 1)) : px_tk S' t d n := by
  unfold px_tk; rw [h0, h1]; exact h
theorem px_GC_k {C' : gm_M} {L : List Nat} (h : px_GC C d L) (h2 : C'.1 88 2 = C.1 88 2) (h4 : C'.1 88 4 = C.1 88 4) (h1 : C'.1 89 = C.1 89) : px_GC C' d L := by
  unfold px_GC px_at; rw [h2, h4, h1]; exact h
theorem px_greater {n : Nat} {L : List Nat} (hf : 1000 ≤ fl) (hd : d ≤ 4) (hn : n < 2 ^ 31) (h : px_GC C d L) : ∃ C', Gs_greaterPart fl (nI n) C = some (nI (px_gp d L n), C') ∧ (∀ t, t ≠ 90 → t ≠ 91 → C'.1 t = C.1 t) ∧ C'.2 = C.2 := by
  obtain ⟨h4, h2, hA, hl, hm, hd0⟩ := id h
  obtain ⟨S1, a1, a2, a3, a4⟩ := px_spell fl 90 d n C (by omega) hd hn
  have g1 : px_GC S1 d L := px_GC_k h (by rw [a3 88 (by omega) (by omega)]) (by rw [a3 88 (by omega) (by omega)]) (a3 89 (by omega) (by omega))
  have P := px_gpart_L (fl := fl) hf a2 hd hn L 0 0 fl g1.2.2.1 (by rw [g1.2.1, Nat.zero_add]) (by omega) (by omega) hm hd0 (by omega)
  have P : Gs_greaterPart_L16 fl S1 fl 0 0 = some (nI (0 + px_yn d L n)) := P
  have hy := px_yn_le (d := d) (L := L) (n := n)
  refine ⟨S1, ?_, a3, a4⟩
  unfold Gs_greaterPart
  rw [h4, a1]
  simp only [px_1]
  rw [P, Nat.zero_add]
  simp only [px_1, px_lt]
  rw [g1.2.1, pk_sub hy]
  unfold px_gp
  by_cases c : px_yn d L n < L.length - px_yn d L n
  · rw [if_pos c, if_pos ((nI_ltI (by omega) (by omega)).mpr c)]
  · rw [if_neg c, if_neg (fun q => c ((nI_ltI (by omega) (by omega)).mp q))]
theorem px_find_L {L : List Nat} (hf : 1000 ≤ fl) (hd : d ≤ 4) : ∀ (m n : Nat) (C : gm_M), px_GC C d L → n ≤ 100 → 100 - n < m → ∃ C', Gs_findQuestion_L9 fl m (px_aq d L n).1 (nI (px_aq d L n).2) (nI n) C = some ((px_aq d L 100).1, C') ∧ (∀ t, t ≠ 90 → t ≠ 91 → C'.1 t = C.1 t) ∧ C'.2 = C.2 := by
  intro m
  induction m with
  | zero => intro n C _ _ q; omega
  | succ m ih =>
    intro n C h hn hm
    have e1 : ∀ y z, Gs_findQuestion_L9 fl (m + 1) y z (nI n) C = Gs_findQuestion_L9_b fl (Gs_findQuestion_L9 fl m) y z (nI n) C := fun _ _ => rfl
    rw [e1]
    unfold Gs_findQuestion_L9_b
    by_cases c : 100 ≤ n
    · rw [if_pos (show (100 : Int32) ≤ nI n from (nI_leI (a := 100) (by omega) (by omega)).mpr c), show n = 100 by omega]
      exact ⟨C, rfl, fun _ _ _ => rfl, rfl⟩
    · rw [if_neg (show ¬ (100 : Int32) ≤ nI n from fun q => c ((nI_leI (a := 100) (by omega) (by omega)).mp q))]
      obtain ⟨C1, a1, a2, a3⟩ := px_greater (fl := fl) (n := n) hf hd (by omega) h
      have h1 : px_GC C1 d L := px_GC_k h (by rw [a2 88 (by omega) (by omega)]) (by rw [a2 88 (by omega) (by omega)]) (a2 89 (by omega) (by omega))
      obtain ⟨C2, b1, b2, b3⟩ := ih (n + 1) C1 h1 (by omega) (by omega)
      have hl := h.2.2.2.1
      have hq := px_aq_le (d := d) (L := L) n
      have hg := px_gp_le (d := d) (L := L) (n := n)
      refine ⟨C2, ?_, fun t t1 t2 => by rw [b2 t t1 t2, a2 t t1 t2], by rw [b3, a3]⟩
      rw [a1, px_2]
      simp only [px_lt]
      rw [show nI n + 1 = nI (n + 1) from nI_1 n]
      by_cases c4 : px_gp d L n < (px_aq d L n).2
      · have c5 : ¬ nI (px_aq d L n).2 ≤ nI (px_gp d L n) := fun q => by have := (nI_leI (by omega) (by omega)).mp q; omega
        have e2 : px_aq d L (n + 1) = (nI n, px_gp d L n) := by simp only [px_aq]; rw [if_pos c4]
        rw [e2] at b1
        rw [if_neg c5, px_2]
        exact b1
      · have c5 : nI (px_aq d L n).2 ≤ nI (px_gp d L n) := (nI_leI (by omega) (by omega)).mpr (by omega)
        have e2 : px_aq d L (n + 1) = px_aq d L n := by simp only [px_aq]; rw [if_neg c4]
        rw [e2] at b1
        rw [if_pos c5, px_2]
        exact b1
theorem px_bestq {L : List Nat} (hf : 1000 ≤ fl) (hd : d ≤ 4) (h : px_GC C d L) (hq : C.1 88 6 = nI 0 ∨ (C.1 88 6 = nI 1 ∧ C.1 88 5 = (px_aq d L 100).1)) : ∃ C', Gs_bestQuestion fl C = some ((px_aq d L 100).1, C') ∧ (∀ t, t ≠ 88 → t ≠ 90 → t ≠ 91 → C'.1 t = C.1 t) ∧ C'.2 = C.2 ∧ (∀ k, k ≠ 5 → k ≠ 6 → C'.1 88 k = C.1 88 k) ∧ C'.1 88 6 = nI 1 ∧ C'.1 88 5 = (px_aq d L 100).1 := by
  unfold Gs_bestQuestion
  rcases hq with hq | ⟨q1, q2⟩
  · rw [hq, if_pos (show nI 0 = (0 : Int32) from rfl)]
    obtain ⟨C2, b1, b2, b3⟩ := px_find_L (fl := fl) (L := L) hf hd fl 0 C h (by omega) (by omega)
    have b1 : Gs_findQuestion_L9 fl fl (-1) (nI L.length) 0 C = some ((px_aq d L 100).1, C2) := b1
    unfold Gs_findQuestion
    simp only [px_lt]
    rw [h.2.1, b1]
    simp only [px_2]
    have e5 : (gm_ui (gm_ui C2 88 5 (px_aq d L 100).1) 88 6 1).1 88 5 = (px_aq d L 100).1 := by rw [px_ui, if_pos rfl, if_neg (by omega), px_ui, if_pos rfl, if_pos rfl]
    rw [e5]
    refine ⟨_, rfl, fun t t1 t2 t3 => by rw [px_ui0 _ _ _ _ _ t1, px_ui0 _ _ _ _ _ t1, b2 t t2 t3], b3, fun k k1 k2 => by rw [px_ui, if_pos rfl, if_neg k2, px_ui, if_pos rfl, if_neg k1, b2 88 (by omega) (by omega)], by rw [px_ui, if_pos rfl, if_pos rfl]; rfl, e5⟩
  · rw [q1, if_neg (show ¬ nI 1 = (0 : Int32) by decide), q2]
    exact ⟨C, rfl, fun _ _ _ _ => rfl, rfl, fun _ _ _ => rfl, q1, q2⟩
theorem px_take_L {n : Nat} (b : Bool) (hf : 1000 ≤ fl) (hd : d ≤ 4) (hn : n < 2 ^ 31) : ∀ (B F : List Nat) (j m : Nat) (C : gm_M), px_tk C 90 d n → px_at C 0 F → px_at C j B → F.length ≤ j → C.1 88 2 = nI (j + B.length) → j + B.length ≤ 171 → (∀ x, x ∈ B → x < 171) → (B ≠ [] → 0 < d) → B.length < m → ∃ C', Gs_takeIn_L17 fl (nI b.toNat) m (nI F.length) (nI j) C = some (nI (F ++ B.filter (fun x => px_yx d x n == b)).length, C') ∧ px_at C' 0 (F ++ B.filter (fun x => px_yx d x n == b)) ∧ (∀ t, t ≠ 89 → C'.1 t = C.1 t) ∧ C'.2 = C.2 := by
  intro B
  induction B with
  | nil =>
    intro F j m C ht hF hA hj h2 h3 hB hd0 hm
    obtain ⟨m, rfl⟩ : ∃ q, m = q + 1 := ⟨m - 1, by omega⟩
    have e1 : Gs_takeIn_L17 fl (nI b.toNat) (m + 1) (nI F.length) (nI j) C = Gs_takeIn_L17_b fl (nI b.toNat) (Gs_takeIn_L17 fl (nI b.toNat) m) (nI F.length) (nI j) C := rfl
    rw [e1]
    unfold Gs_takeIn_L17_b
    rw [h2, if_pos ((nI_leI (by omega) (by omega)).mpr (by simp))]
    simp only [List.filter_nil, List.append_nil]
    exact ⟨C, rfl, hF, fun _ _ => rfl, rfl⟩
  | cons x B ih =>
    intro F j m C ht hF hA hj h2 h3 hB hd0 hm
    simp only [List.length_cons] at h2 h3 hm
    obtain ⟨m, rfl⟩ : ∃ q, m = q + 1 := ⟨m - 1, by omega⟩
    have e1 : Gs_takeIn_L17 fl (nI b.toNat) (m + 1) (nI F.length) (nI j) C = Gs_takeIn_L17_b fl (nI b.toNat) (Gs_takeIn_L17 fl (nI b.toNat) m) (nI F.length) (nI j) C := rfl
    rw [e1]
    unfold Gs_takeIn_L17_b
    have hx := hB x (List.mem_cons_self)
    obtain ⟨a1, a2⟩ := px_at_h hA
    rw [h2, if_neg (fun q => by have := (nI_leI (by omega) (by omega)).mp q; omega), px_ck _ (by omega) (by decide), nI_clamp (by omega), a1, px_cs hf hx ht hd (hd0 (by simp)) hn]
    simp only [px_1, px_lt]
    rw [show nI j + 1 = nI (j + 1) from nI_1 j]
    by_cases c : (px_yx d x n == b) = true
    · have ef : (x :: B).filter (fun x => px_yx d x n == b) = x :: B.filter (fun x => px_yx d x n == b) := by rw [List.filter_cons, if_pos c]
      rw [if_pos (by rw [px_beq]; exact c), px_ck _ (by omega) (by decide), px_ck _ (by omega) (by decide), nI_clamp (by omega), px_2, ef, show F ++ x :: B.filter (fun x => px_yx d x n == b) = (F ++ [x]) ++ B.filter (fun x => px_yx d x n == b) by simp]
      have hF' : px_at (gm_ui C 89 F.length (nI (px_rc x))) 0 (F ++ [x]) := by
        intro i y hy
        rw [px_ui, if_pos rfl, Nat.zero_add]
        by_cases ei : i = F.length
        · subst ei
          rw [List.getElem?_append_right (Nat.le_refl _), Nat.sub_self] at hy
          rw [if_pos rfl, ← Option.some.inj hy]
        · rw [if_neg ei]
          rcases Nat.lt_or_ge i F.length with q | q
          · rw [List.getElem?_append_left q] at hy
            have := hF i y hy
            rw [Nat.zero_add] at this
            exact this
          · rw [List.getElem?_append_right q, List.getElem?_eq_none (by simp; omega)] at hy
            exact nomatch hy
      have hA' : px_at (gm_ui C 89 F.length (nI (px_rc x))) (j + 1) B := by
        intro i y hy
        rw [px_ui, if_pos rfl, if_neg (by omega)]
        exact a2 i y hy
      obtain ⟨C', q1, q2, q3, q4⟩ := ih (F ++ [x]) (j + 1) m (gm_ui C 89 F.length (nI (px_rc x))) (px_tk_k ht (px_ui0 _ _ _ _ _ (by omega)) (px_ui0 _ _ _ _ _ (by omega))) hF' hA' (by simp; omega) (by rw [px_ui0 _ _ _ _ _ (by omega), h2, show j + 1 + B.length = j + (B.length + 1) by omega]) (by omega) (fun y hy => hB y (List.mem_cons_of_mem _ hy)) (fun _ => hd0 (by simp)) (by omega)
      refine ⟨C', ?_, q2, fun t ht => by rw [q3 t ht, px_ui0 _ _ _ _ _ ht], by rw [q4]; rfl⟩
      rw [← q1, show nI F.length + 1 = nI (F ++ [x]).length from by rw [List.length_append]; exact nI_1 _]
    · have ef : (x :: B).filter (fun x => px_yx d x n == b) = B.filter (fun x => px_yx d x n == b) := by rw [List.filter_cons, if_neg c]
      rw [if_neg (by rw [px_beq]; exact c), px_2, ef]
      exact ih F (j + 1) m C ht hF a2 (by omega) (by rw [h2, show j + 1 + B.length = j + (B.length + 1) by omega]) (by omega) (fun y hy => hB y (List.mem_cons_of_mem _ hy)) (fun _ => hd0 (by simp)) (by omega)
theorem px_take {n : Nat} {L : List Nat} (b : Bool) (hf : 1000 ≤ fl) (hd : d ≤ 4) (hn : n < 2 ^ 31) (h : px_GC C d L) : ∃ C', Gs_takeIn fl (nI n) (nI b.toNat) C = some C' ∧ px_GC C' d (L.filter (fun x => px_yx d x n == b)) ∧ (∀ t, t ≠ 88 → t ≠ 89 → t ≠ 90 → t ≠ 91 → C'.1 t = C.1 t) ∧ C'.2 = C.2 ∧ C'.1 88 3 = C.1 88 3 + 1 ∧ C'.1 88 6 = nI 0 := by
  obtain ⟨h4, h2, hA, hl, hm, hd0⟩ := id h
  obtain ⟨S1, a1, a2, a3, a4⟩ := px_spell fl 90 d n C (by omega) hd hn
  have g1 : px_GC S1 d L := px_GC_k h (by rw [a3 88 (by omega) (by omega)]) (by rw [a3 88 (by omega) (by omega)]) (a3 89 (by omega) (by omega))
  obtain ⟨S2, b1, b2, b3, b4⟩ := px_take_L (fl := fl) b hf hd hn L [] 0 fl S1 a2 (fun i x q => nomatch q) g1.2.2.1 (by simp) (by rw [g1.2.1, Nat.zero_add]) (by omega) hm hd0 (by omega)
  have b1 : Gs_takeIn_L17 fl (nI b.toNat) fl 0 0 S1 = _ := b1
  rw [List.nil_append] at b1 b2
  unfold Gs_takeIn
  rw [h4, a1]
  simp only [px_1]
  rw [b1, px_2]
  simp only [px_lt]
  have hle : (L.filter (fun x => px_yx d x n == b)).length ≤ L.length := List.length_filter_le _ _
  have e3 : (gm_ui S2 88 2 (nI (L.filter (fun x => px_yx d x n == b)).length)).1 88 3 = C.1 88 3 := by rw [px_ui, if_pos rfl, if_neg (by omega), b3 88 (by omega), a3 88 (by omega) (by omega)]
  rw [e3]
  refine ⟨_, rfl, ⟨?_, ?_, ?_, by omega, fun x hx => hm x (List.mem_filter.mp hx).1, fun q => hd0 (fun z => q (by rw [z]; rfl))⟩, fun t t1 t2 t3 t4 => by rw [px_ui0 _ _ _ _ _ t1, px_ui0 _ _ _ _ _ t1, px_ui0 _ _ _ _ _ t1, b3 t t2, a3 t t3 t4], by rw [px_ui2, px_ui2, px_ui2, b4, a4], ?_, ?_⟩
  · rw [px_ui, if_pos rfl, if_neg (by omega), px_ui, if_pos rfl, if_neg (by omega), px_ui, if_pos rfl, if_neg (by omega), b3 88 (by omega), a3 88 (by omega) (by omega)]; exact h4
  · rw [px_ui, if_pos rfl, if_neg (by omega), px_ui, if_pos rfl, if_neg (by omega), px_ui, if_pos rfl, if_pos rfl]
  · intro i x hx
    rw [px_ui0 _ _ _ _ _ (by omega), px_ui0 _ _ _ _ _ (by omega), px_ui0 _ _ _ _ _ (by omega)]
    exact b2 i x hx
  · rw [px_ui, if_pos rfl, if_neg (by omega), px_ui, if_pos rfl, if_pos rfl]
  · rw [px_ui, if_pos rfl, if_pos rfl]; rfl
end PG3
