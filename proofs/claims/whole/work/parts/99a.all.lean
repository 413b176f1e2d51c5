def gm_se (x y : Nat × va_E) : Prop := x.1 = y.1 ∧ ∀ (D : va_G) (cl : List vw_C) (H : Heap), va_at D cl x H → va_at D cl y H
theorem gm_se_r (x : Nat × va_E) : gm_se x x := ⟨rfl, fun _ _ _ h => h⟩
theorem gm_se_f {a n : Nat} {cA : ClassId} {f f' : Nat → Option Nat} (h : ∀ j, j < n → f j = f' j) : gm_se (a, .inl (cA, n, .inr (.inr (.inr (.inr f))))) (a, .inl (cA, n, .inr (.inr (.inr (.inr f'))))) := by
  refine ⟨rfl, fun D cl H hx => ?_⟩
  have e : vp_cell cA (n, .inr (.inr (.inr (.inr f)))) = vp_cell cA (n, .inr (.inr (.inr (.inr f')))) := by
    rw [vp_cell_q, vp_cell_q]
    unfold arrV
    congr 1
    congr 1
    funext j
    dsimp only
    rw [h j.1 j.2]
  show H[a]? = some (vp_cell cA (n, .inr (.inr (.inr (.inr f')))))
  rw [← e]
  exact hx
def gm_sl (w w' : va_W) : Prop := w.length = w'.length ∧ ∀ (k : Nat) (x y : Nat × va_E), w[k]? = some x → w'[k]? = some y → gm_se x y
theorem gm_sl_r (w : va_W) : gm_sl w w := ⟨rfl, fun k x y h1 h2 => by rw [h1] at h2; cases h2; exact gm_se_r x⟩
theorem gm_sl_c {x y : Nat × va_E} {w w' : va_W} (h : gm_se x y) (hw : gm_sl w w') : gm_sl (x :: w) (y :: w') := by
  refine ⟨by simp [hw.1], fun k a b h1 h2 => ?_⟩
  cases k with
  | zero => cases h1; cases h2; exact h
  | succ k => exact hw.2 k a b h1 h2
theorem gm_sl_a {w1 w1' w2 w2' : va_W} (h1 : gm_sl w1 w1') (h2 : gm_sl w2 w2') : gm_sl (w1 ++ w2) (w1' ++ w2') := by
  refine ⟨by rw [List.length_append, List.length_append, h1.1, h2.1], fun k a b g1 g2 => ?_⟩
  by_cases c : k < w1.length
  · rw [List.getElem?_append_left c] at g1
    rw [List.getElem?_append_left (by rw [← h1.1]; exact c)] at g2
    exact h1.2 k a b g1 g2
  · rw [List.getElem?_append_right (by omega)] at g1
    rw [List.getElem?_append_right (by rw [← h1.1]; omega), ← h1.1] at g2
    exact h2.2 _ a b g1 g2
theorem gm_sl_P {D : va_G} {cl : List vw_C} {w w' : va_W} {H : Heap} (h : gm_sl w w') (hP : va_P D cl w H) : va_P D cl w' H := by
  intro k y hy
  have hk : k < w.length := by rw [h.1]; exact (List.getElem?_eq_some_iff.mp hy).1
  exact (h.2 k _ y (List.getElem?_eq_getElem hk) hy).2 D cl H (hP k _ (List.getElem?_eq_getElem hk))
theorem gm_sl_D {A : Nat → Prop} {w w' : va_W} (h : gm_sl w w') (hD : va_D A w) : va_D A w' := by
  have key : ∀ (k : Nat) (y : Nat × va_E), w'[k]? = some y → ∃ x, w[k]? = some x ∧ x.1 = y.1 := fun k y hy => by
    have hk : k < w.length := by rw [h.1]; exact (List.getElem?_eq_some_iff.mp hy).1
    exact ⟨_, List.getElem?_eq_getElem hk, (h.2 k _ y (List.getElem?_eq_getElem hk) hy).1⟩
  refine ⟨fun i j x y hx hy hxy => ?_, fun k y hy => ?_⟩
  · obtain ⟨a, a1, a2⟩ := key i x hx
    obtain ⟨b, b1, b2⟩ := key j y hy
    exact hD.1 i j a b a1 b1 (by rw [a2, b2]; exact hxy)
  · obtain ⟨a, a1, a2⟩ := key k y hy
    rw [← a2]
    exact hD.2 k a a1
def gm_z : gm_M := (fun _ _ => 0, fun _ _ => 0)
def gm_C0 : gm_M := gm_ui (gm_ui gm_z 0 8 (-1)) 88 5 (-1)
def gm_M0 : gm_M := gm_ui gm_z 0 10 (-1)
def gm_ad (h0 r im : Nat) (qR qT qB qG qK qI qJ : Nat → Nat) (q4 : Nat) (qq : Nat → Nat → Nat) (i : Nat) : Nat :=
  if i < 8 then (if i = 0 then h0 else qR (i - 1)) else if i < 12 then qT (i - 8) else if i < 22 then qB (i - 12) else if i = 22 then q4 else if i = 23 then r else if i < 88 then qq ((i - 24) / 4) ((i - 24) % 4) else if i < 92 then qG (i - 88) else if i < 95 then qK (i - 92) else if i = 95 then im else if i < 101 then qI (i - 96) else qJ (i - 101)
set_option maxHeartbeats 40000000 in
set_option maxRecDepth 100000 in
theorem wd_eq (cf : gm_C) (h0 r im : Nat) (qR qT qB qG qK qI qJ : Nat → Nat) (q4 : Nat) (qq : Nat → Nat → Nat) (ad : Nat → Nat) (had : ad = gm_ad h0 r im qR qT qB qG qK qI qJ q4 qq) : ((h0, .inr (10, [.ref (qR 0), .ref (qT 0), .ref (qB 0), .ref q4, .ref (qG 0), .ref (qK 0), .ref im, .long 0, .int (-1)])) :: (wd_5 cf qR ++ wd_9 cf qT ++ wd_3 cf qB (fun j => some (ad (14 + 1 * j))) ++ wd_4 cf q4 r (fun j => some (ad (24 + 4 * j))) qq 16 ++ wd_1 cf qG ++ wd_0 cf qK)) ++ (im, .inl (cf.2 6, 2, .inr (.inr (.inr (.inr (fun j => some (ad (96 + 5 * j)))))))) :: (wd_2 cf qI ++ wd_2 cf qJ) = gm_W cf ad gm_sC 106 gm_C0 := by
  subst had
  rfl
