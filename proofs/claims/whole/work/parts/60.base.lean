theorem px_lit (n : Nat) : (OfNat.ofNat n : Int32) = nI (OfNat.ofNat n) := rfl
theorem px_litL (n : Nat) : (OfNat.ofNat n : Int64) = lN (OfNat.ofNat n) := rfl
theorem px_lt {α β : Type} (x : α) (k : α → Option β) : gm_lt x k = k x := rfl
theorem px_1 {α β : Type} (x : α) (k : α → Option β) : gm_bp1 (some x) k = k x := rfl
theorem px_2 {α γ β : Type} (x : α) (y : γ) (k : α → γ → Option β) : gm_bp2 (some (x, y)) k = k x y := rfl
theorem px_3 {α γ δ β : Type} (x : α) (y : γ) (z : δ) (k : α → γ → δ → Option β) : gm_bp3 (some (x, y, z)) k = k x y z := rfl
theorem px_ck {β : Type} {i n : Nat} (k : Option β) (h : i < n) (hn : n < 2 ^ 31) : gm_ck (nI i) n k = k := by
  unfold gm_ck
  rw [nI_toInt (by omega), if_pos (by omega)]
theorem px_rm {a d : Nat} (ha : a < 2 ^ 31) (h0 : 0 < d) (hd : d < 2 ^ 31) : gm_rm (nI a) (nI d) = nI (a % d) := pk_rem ha h0 hd
theorem px_le {a b : Nat} (ha : a < 2 ^ 31) (hb : b < 2 ^ 31) : (nI a ≤ nI b) = (a ≤ b) := propext (nI_leI ha hb)
theorem px_ltI {a b : Nat} (ha : a < 2 ^ 31) (hb : b < 2 ^ 31) : (nI a < nI b) = (a < b) := propext (nI_ltI ha hb)
theorem px_eq {a b : Nat} (ha : a < 2 ^ 31) (hb : b < 2 ^ 31) : (nI a = nI b) = (a = b) := propext (nI_eq ha hb)
theorem px_ne1 {a b : Nat} (ha : a < 2 ^ 31) (h0 : 0 < b) (hb : b < 2 ^ 31) : (nI a = -nI b) = False := by
  apply propext
  constructor
  · intro h
    have h1 := congrArg Int32.toInt h
    rw [nI_toInt ha, sb_negT hb] at h1
    omega
  · exact False.elim
theorem px_ui (S : gm_M) (t k t' k' : Nat) (v : Int32) : (gm_ui S t k v).1 t' k' = if t' = t then (if k' = k then v else S.1 t' k') else S.1 t' k' := by
  unfold gm_ui va_up
  by_cases h : t' = t
  · subst h
    simp [upd]
  · simp [h]
theorem px_ui0 (S : gm_M) (t k t' : Nat) (v : Int32) (h : t' ≠ t) : (gm_ui S t k v).1 t' = S.1 t' := va_up_ne _ _ h
theorem px_ui2 (S : gm_M) (t k : Nat) (v : Int32) : (gm_ui S t k v).2 = S.2 := rfl
theorem px_uj1 (S : gm_M) (t k : Nat) (v : Int64) : (gm_uj S t k v).1 = S.1 := rfl
theorem px_uj (S : gm_M) (t k t' k' : Nat) (v : Int64) : (gm_uj S t k v).2 t' k' = if t' = t then (if k' = k then v else S.2 t' k') else S.2 t' k' := by
  unfold gm_uj va_up
  by_cases h : t' = t
  · subst h
    simp [vp_updL]
  · simp [h]
theorem px_uf (S : gm_M) (t t' k' : Nat) (f : Nat → Int32) : (gm_uf S t f).1 t' k' = if t' = t then f k' else S.1 t' k' := by
  unfold gm_uf va_up
  by_cases h : t' = t <;> simp [h]
theorem px_uf2 (S : gm_M) (t : Nat) (f : Nat → Int32) : (gm_uf S t f).2 = S.2 := rfl
theorem px_b0 (b : Bool) : (b.toNat = 0) = (b = false) := by cases b <;> simp
theorem px_b1 (b : Bool) : b.toNat < 2 := by cases b <;> simp
theorem px_nb (b : Bool) : vp_nar .boolean (nI b.toNat) = nI b.toNat := by cases b <;> rfl
def px_num (d : Nat) : Nat := if d = 0 then 0 else 10 ^ d
theorem px_num_le {d : Nat} (h : d ≤ 4) : px_num d ≤ 10000 := by
  rcases (show d = 0 ∨ d = 1 ∨ d = 2 ∨ d = 3 ∨ d = 4 by omega) with rfl | rfl | rfl | rfl | rfl <;> decide
theorem px_numbers_L (fl t d : Nat) (S : gm_M) (hd : d ≤ 4) (h : S.1 t 3 = nI d) : ∀ (m i x : Nat), i ≤ d → d - i < m → x * 10 ^ (d - i) ≤ 10000 → Tr_numbers_L15 t S m (nI x) (nI i) = some (nI (x * 10 ^ (d - i))) := by
  intro m
  induction m with
  | zero => intro i x _ h1; omega
  | succ m ih =>
    intro i x hi hm hx
    show Tr_numbers_L15_b t S (Tr_numbers_L15 t S m) _ _ = _
    unfold Tr_numbers_L15_b
    rw [h]
    by_cases hc : d ≤ i
    · rw [if_pos ((nI_leI (by omega) (by omega)).mpr hc), show d - i = 0 by omega]
      simp
    · have e : 10 ^ (d - i) = 10 * 10 ^ (d - (i + 1)) := by rw [show d - i = (d - (i + 1)) + 1 by omega, Nat.pow_succ, Nat.mul_comm]
      have hp : 0 < 10 ^ (d - (i + 1)) := Nat.pow_pos (by decide)
      have hx2 : x * 10 ≤ 10000 := by
        rw [e, ← Nat.mul_assoc] at hx
        exact Nat.le_trans (Nat.le_mul_of_pos_right _ hp) hx
      simp (disch := omega) only [px_lit, px_le, px_lt, pk_mul, nI_add, if_neg]
      rw [ih (i + 1) (x * 10) (by omega) (by omega) (by rw [Nat.mul_assoc, ← e]; exact hx), Nat.mul_assoc, ← e]
theorem px_numbers (fl t d : Nat) (S : gm_M) (hf : 5 ≤ fl) (hd : d ≤ 4) (h : S.1 t 3 = nI d) : Tr_numbers fl t S = some (nI (px_num d)) := by
  unfold Tr_numbers px_num
  by_cases hc : d = 0
  · subst hc
    simp (disch := omega) only [h, px_lit, px_eq, if_pos, px_1, ↓reduceIte]
    rw [px_numbers_L fl t 0 S hd h fl 0 0 (by omega) (by omega) (by decide)]
    rfl
  · simp (disch := omega) only [h, px_lit, px_eq, if_neg, px_1, hc, if_false]
    have h4 : 10 ^ d ≤ 10000 := by have := px_num_le hd; unfold px_num at this; rw [if_neg hc] at this; exact this
    rw [px_numbers_L fl t d S hd h fl 0 1 (by omega) (by omega) (by simpa using h4)]
    simp [px_1]
