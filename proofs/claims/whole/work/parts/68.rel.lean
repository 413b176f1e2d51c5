def px_rs : Nat → Nat → Nat → Nat × Nat
  | 0, a, l => (a, l)
  | n + 1, a, l => if l < a then (a, l) else px_rs n (a + 1) (l - a)
def px_rk (x : Nat) : Nat := if x < 37 then 0 else if x < 40 then 1 else if x < 90 then 2 else if x < 167 then 3 else 4
def px_ra (x : Nat) : Nat := if x < 37 then x else if x < 40 then x - 37 else if x < 90 then (x - 40) / 5 else if x < 167 then (px_rs 80 2 (x - 90)).1 else x - 167
def px_rb (x : Nat) : Nat := if x < 40 then 0 else if x < 90 then (x - 40) % 5 else if x < 167 then (px_rs 80 2 (x - 90)).2 else 0
def px_rc (x : Nat) : Nat := px_code (px_rk x) (px_ra x) (px_rb x)
def px_yx (d x n : Nat) : Bool := px_yes d (px_rk x) (px_ra x) (px_rb x) n
def px_cl (d s : Nat) (sn : Nat → Nat) (ss : Nat → Bool) : List Nat := if d = 0 then [] else (List.range 171).filter (fun x => (List.range s).all (fun i => px_yx d x (sn i) == ss i))
def px_yn (d : Nat) (L : List Nat) (n : Nat) : Nat := (L.filter (fun x => px_yx d x n)).length
def px_gp (d : Nat) (L : List Nat) (n : Nat) : Nat := if px_yn d L n < L.length - px_yn d L n then L.length - px_yn d L n else px_yn d L n
def px_aq (d : Nat) (L : List Nat) : Nat → Int32 × Nat
  | 0 => (-1, L.length)
  | n + 1 => if px_gp d L n < (px_aq d L n).2 then (nI n, px_gp d L n) else px_aq d L n
def px_Gu (C M : gm_M) (d : Nat) : Prop := ∃ (s : Nat) (sn : Nat → Nat) (ss : Nat → Bool), s ≤ 8 ∧ C.1 88 3 = nI s ∧ M.1 0 29 = nI s ∧ C.1 88 4 = nI d ∧ (∀ i, i < s → sn i < px_num d ∧ M.1 11 i = nI (sn i) ∧ M.1 12 i = nI (ss i).toNat) ∧ C.1 88 2 = nI (px_cl d s sn ss).length ∧ (∀ i x, (px_cl d s sn ss)[i]? = some x → C.1 89 i = nI (px_rc x)) ∧ (C.1 88 6 = nI 0 ∨ (C.1 88 6 = nI 1 ∧ C.1 88 5 = (px_aq d (px_cl d s sn ss) 100).1))
theorem px_Gu_k {C M C' M' : gm_M} {d : Nat} (h : px_Gu C M d) (c88 : C'.1 88 = C.1 88) (c89 : C'.1 89 = C.1 89) (m : M'.1 0 29 = M.1 0 29) (m11 : M'.1 11 = M.1 11) (m12 : M'.1 12 = M.1 12) : px_Gu C' M' d := by
  unfold px_Gu; rw [c88, c89, m, m11, m12]; exact h
def px_R1 (C M : gm_M) (d nr nn np : Nat) (kd g : Nat → Nat) : Prop := px_V0 d nr nn np kd ∧ px_V1 d nr nn g ∧ px_CT C 8 d nr nn np kd g ∧ px_MT M d nr nn np kd g ∧ px_TB C d nr g ∧ px_Tx C M ∧ px_Fl C M ∧ px_Sd C M ∧ px_Un C M d nr nn np kd ∧ px_Im C M d nr nn np kd ∧ px_Gu C M d ∧ px_Bo C M d
def px_R (C M : gm_M) : Prop := ∃ (d nr nn np : Nat) (kd g : Nat → Nat), px_R1 C M d nr nn np kd g
theorem px_V0_d {d nr nn np : Nat} {kd : Nat → Nat} (h : px_V0 d nr nn np kd) : d ≤ 4 := by have := h.1; omega
theorem px_num_pos {d : Nat} (h : 0 < d) : 0 < px_num d := by unfold px_num; rw [if_neg (by omega)]; exact Nat.pow_pos (by decide)
theorem px_ix {x : Int32} {n : Nat} (hn : n < 1000) : Mo_in x.toInt64 0 ((nI n - 1).toInt64) = some (nI (decide (0 ≤ x.toInt ∧ x.toInt < n)).toNat) := by
  rw [px_in (Y := 0) x 0 (nI n - 1) rfl rfl]
  have e : (nI n - 1).toInt = (n : Int) - 1 := pk_sub_toInt (a := n) (b := 1) (by omega) (by omega)
  rw [e, show (0 : Int32).toInt = 0 from rfl]
  congr 3
  exact decide_eq_decide.mpr (by omega)
theorem px_toI {x : Int32} (h : x < 0) : x.toInt < 0 := Int32.lt_iff_toInt_lt.mp h
section PH
variable {C M : gm_M} {d nr nn np : Nat} {kd g : Nat → Nat}
theorem px_hasRule (x : Int32) (hC : px_CT C 8 d nr nn np kd g) (hM : px_MT M d nr nn np kd g) (h0 : px_V0 d nr nn np kd) : (Tr_hasRule 8 x C = some (nI 0) ∧ Mo_isRule x M = some (nI 0)) ∨ (∃ r, r < nr ∧ x = nI r ∧ Tr_hasRule 8 x C = some (nI 1) ∧ Mo_isRule x M = some (nI 1)) := by
  have hb := h0.2.1
  unfold Tr_hasRule Mo_isRule
  rw [hC.2.2.2.1, hM.2.2.1, px_ix (by omega)]
  simp only [px_1, px_nb, if_true]
  rcases pk_ix x (n := nr) (by omega) with h | h | ⟨j, hj, rfl⟩
  · left
    have := px_toI h
    rw [if_pos h, decide_eq_false (by omega)]
    exact ⟨rfl, rfl⟩
  · left
    have h2 := Int32.le_iff_toInt_le.mp h
    rw [nI_toInt (by omega)] at h2
    rw [if_pos h, decide_eq_false (by omega)]
    refine ⟨?_, rfl⟩
    split <;> rfl
  · right
    refine ⟨j, hj, rfl, ?_, ?_⟩
    · rw [if_neg (nI_pos (by omega)), if_neg (nI_ge hj (by omega))]; rfl
    · rw [nI_toInt (by omega), decide_eq_true (by omega)]; rfl
theorem px_hasRoll (x : Int32) (hC : px_CT C 8 d nr nn np kd g) (hM : px_MT M d nr nn np kd g) (h0 : px_V0 d nr nn np kd) : (Tr_hasRoll 8 x C = some (nI 0) ∧ Mo_isRoll x M = some (nI 0)) ∨ (∃ r, r < nn ∧ x = nI r ∧ Tr_hasRoll 8 x C = some (nI 1) ∧ Mo_isRoll x M = some (nI 1)) := by
  have hb := h0.2.2.1
  unfold Tr_hasRoll Mo_isRoll
  rw [hC.2.2.2.2.1, hM.2.2.2.1, px_ix (by omega)]
  simp only [px_1, px_nb, if_true]
  rcases pk_ix x (n := nn) (by omega) with h | h | ⟨j, hj, rfl⟩
  · left
    have := px_toI h
    rw [if_pos h, decide_eq_false (by omega)]
    exact ⟨rfl, rfl⟩
  · left
    have h2 := Int32.le_iff_toInt_le.mp h
    rw [nI_toInt (by omega)] at h2
    rw [if_pos h, decide_eq_false (by omega)]
    refine ⟨?_, rfl⟩
    split <;> rfl
  · right
    refine ⟨j, hj, rfl, ?_, ?_⟩
    · rw [if_neg (nI_pos (by omega)), if_neg (nI_ge hj (by omega))]; rfl
    · rw [nI_toInt (by omega), decide_eq_true (by omega)]; rfl
theorem px_hasRider (x : Int32) (hC : px_CT C 8 d nr nn np kd g) (hM : px_MT M d nr nn np kd g) (h0 : px_V0 d nr nn np kd) : (Tr_hasRider 8 x C = some (nI 0) ∧ Mo_isRider x M = some (nI 0)) ∨ (∃ r, r < np ∧ x = nI r ∧ Tr_hasRider 8 x C = some (nI 1) ∧ Mo_isRider x M = some (nI 1)) := by
  have hb := h0.2.2.2.1
  unfold Tr_hasRider Mo_isRider
  rw [hC.2.2.2.2.2.1, hM.2.2.2.2.1, px_ix (by omega)]
  simp only [px_1, px_nb, if_true]
  rcases pk_ix x (n := np) (by omega) with h | h | ⟨j, hj, rfl⟩
  · left
    have := px_toI h
    rw [if_pos h, decide_eq_false (by omega)]
    exact ⟨rfl, rfl⟩
  · left
    have h2 := Int32.le_iff_toInt_le.mp h
    rw [nI_toInt (by omega)] at h2
    rw [if_pos h, decide_eq_false (by omega)]
    refine ⟨?_, rfl⟩
    split <;> rfl
  · right
    refine ⟨j, hj, rfl, ?_, ?_⟩
    · rw [if_neg (nI_pos (by omega)), if_neg (nI_ge hj (by omega))]; rfl
    · rw [nI_toInt (by omega), decide_eq_true (by omega)]; rfl
theorem px_hasNum (fl : Nat) (x : Int32) (hf : 10 ≤ fl) (hC : px_CT C 8 d nr nn np kd g) (hM : px_MT M d nr nn np kd g) (h0 : px_V0 d nr nn np kd) : (Tr_hasNumber fl 8 x C = some (nI 0) ∧ Mo_isNumber x M = some (nI 0)) ∨ (∃ n, n < px_num d ∧ x = nI n ∧ Tr_hasNumber fl 8 x C = some (nI 1) ∧ Mo_isNumber x M = some (nI 1)) := by
  have hd := px_V0_d h0
  have hn := px_num_le hd
  unfold Tr_hasNumber Mo_isNumber
  rw [px_numbers fl 8 d C (by omega) hd hC.1, hM.1, hM.2.1]
  simp only [px_1]
  by_cases d0 : d = 0
  · left
    subst d0
    have e0 : px_num 0 = 0 := rfl
    rw [e0, if_pos (show nI 0 ≤ (0 : Int32) by decide)]
    refine ⟨?_, rfl⟩
    by_cases c : x < 0
    · rw [if_pos c]; rfl
    · rw [if_neg c, if_pos (show nI 0 ≤ x from Int32.not_lt.mp c)]; rfl
  · have hp := px_num_pos (show 0 < d by omega)
    rw [if_neg (nI_nle (by omega) (by omega)), px_in (Y := 0) x 0 (nI (px_num d - 1)) rfl rfl, nI_toInt (show px_num d - 1 < 2 ^ 31 by omega), show (0 : Int32).toInt = 0 from rfl]
    simp only [px_1]
    rcases pk_ix x (n := px_num d) (by omega) with h | h | ⟨j, hj, rfl⟩
    · left
      have := px_toI h
      rw [if_pos h, decide_eq_false (by omega)]
      exact ⟨rfl, rfl⟩
    · left
      have h2 := Int32.le_iff_toInt_le.mp h
      rw [nI_toInt (by omega)] at h2
      rw [if_pos h, decide_eq_false (by omega)]
      refine ⟨?_, rfl⟩
      split <;> rfl
    · right
      refine ⟨j, hj, rfl, ?_, ?_⟩
      · rw [if_neg (nI_pos (by omega)), if_neg (nI_ge hj (by omega))]; rfl
      · rw [nI_toInt (by omega), decide_eq_true (by omega)]; rfl
end PH
theorem px_clk' {S : gm_M} {d nr n : Nat} {g : Nat → Nat} (h : px_TB S d nr g) (hd : d ≤ 4) (hn : n < px_num d) : Tb_isLucky (nI n) S = some (nI (px_lk d nr g n).toNat) := by
  have := px_num_le hd
  rw [px_clk h hd (by omega), decide_eq_true hn, Bool.true_and]
