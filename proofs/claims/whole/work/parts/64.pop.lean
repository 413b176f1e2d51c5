def px_bt (x : Int64) (j : Nat) : Bool := x.toBitVec.getLsbD j
theorem px_bt_N {X j : Nat} (hj : j < 64) : px_bt (lN X) j = X.testBit j := by
  unfold px_bt
  rw [wb_tb, BitVec.getLsbD_ofNat]
  simp [hj]
theorem px_bt_and (x y : Int64) (j : Nat) : px_bt (x &&& y) j = (px_bt x j && px_bt y j) := by
  unfold px_bt
  rw [Int64.toBitVec_and, BitVec.getLsbD_and]
theorem px_bt_or (x y : Int64) (j : Nat) : px_bt (x ||| y) j = (px_bt x j || px_bt y j) := by
  unfold px_bt
  rw [Int64.toBitVec_or, BitVec.getLsbD_or]
theorem px_bt_m1 {j : Nat} (hj : j < 64) : px_bt (-1) j = true := by
  unfold px_bt
  rw [show (-1 : Int64).toBitVec = BitVec.allOnes 64 from by decide, BitVec.getLsbD_allOnes]
  simp [hj]
theorem px_bt_0 (j : Nat) : px_bt 0 j = false := by
  unfold px_bt
  rw [show (0 : Int64).toBitVec = 0#64 from by decide, BitVec.getLsbD_zero]
theorem px_bt_1 {k j : Nat} (hk : k < 64) (hj : j < 64) : px_bt (1 <<< ((nI k).toInt64 &&& 63)) j = decide (k = j) := by
  rw [show (1 : Int64) = lN 1 from rfl, wb_shl 1 hk, px_bt_N hj, Nat.one_mul, Nat.testBit_two_pow]
theorem px_bt_test (x : Int64) {k : Nat} (hk : k < 64) : (lg_cmp ((x >>> ((nI k).toInt64 &&& 63)) &&& 1) 0 = 0) = (px_bt x k = false) := by
  have e1 : ∀ z : Int64, (lg_cmp z 0 = 0) ↔ (z = 0) := by
    intro z
    unfold lg_cmp
    constructor
    · intro h
      by_cases c : z > 0
      · rw [if_pos c] at h; exact absurd h (by decide)
      · rw [if_neg c] at h
        by_cases c2 : z = 0
        · exact c2
        · rw [if_neg c2] at h; exact absurd h (by decide)
    · intro h
      subst h
      decide
  apply propext
  rw [e1, wb_c k hk]
  have e2 : (x >>> lN k).toBitVec.getLsbD 0 = px_bt x k := by
    rw [Int64.toBitVec_shiftRight, wb_tb, wb_sm k hk]
    unfold px_bt
    rw [BitVec.sshiftRight_eq', BitVec.getLsbD_sshiftRight, BitVec.toNat_ofNat, Nat.mod_eq_of_lt (show k < 2 ^ 64 by omega)]
    simp [hk]
  rw [← e2]
  constructor
  · intro h
    have h1 := congrArg (fun z => px_bt z 0) h
    simp only [px_bt_and, px_bt_0] at h1
    have h2 : px_bt 1 0 = true := by decide
    rw [h2, Bool.and_true] at h1
    exact h1
  · intro h
    apply wb_inj
    apply BitVec.eq_of_getLsbD_eq
    intro i hi
    have h3 : ∀ i, i < 64 → px_bt 1 i = decide (i = 0) := by decide +kernel
    show px_bt ((x >>> lN k) &&& 1) i = px_bt 0 i
    rw [px_bt_and, px_bt_0, h3 i hi]
    by_cases c : i = 0
    · subst c
      have h4 : px_bt (x >>> lN k) 0 = false := h
      rw [h4]; rfl
    · simp [c]
def pc_val : List Nat → Nat
  | [] => 0
  | b :: bs => b + 256 * pc_val bs
def pc_rep (m : Nat) : Nat → Nat
  | 0 => 0
  | n + 1 => m + 256 * pc_rep m n
theorem pc_and {a m A Q : Nat} (ha : a < 256) (hm : m < 256) : (a + 256 * A) &&& (m + 256 * Q) = (a &&& m) + 256 * (A &&& Q) := by
  have h1 : ((a + 256 * A) &&& (m + 256 * Q)) % 2 ^ 8 = ((a + 256 * A) % 2 ^ 8) &&& ((m + 256 * Q) % 2 ^ 8) := Nat.and_mod_two_pow
  have h2 : ((a + 256 * A) &&& (m + 256 * Q)) / 2 ^ 8 = ((a + 256 * A) / 2 ^ 8) &&& ((m + 256 * Q) / 2 ^ 8) := Nat.and_div_two_pow
  rw [show (a + 256 * A) % 2 ^ 8 = a by omega, show (m + 256 * Q) % 2 ^ 8 = m by omega] at h1
  rw [show (a + 256 * A) / 2 ^ 8 = A by omega, show (m + 256 * Q) / 2 ^ 8 = Q by omega] at h2
  rw [← h1, ← h2]
  omega
theorem pc_and0 {m : Nat} (hm : m < 256) : ∀ bs : List Nat, (∀ b ∈ bs, b < 256) → pc_val bs &&& pc_rep m bs.length = pc_val (bs.map (fun b => b &&& m))
  | [], _ => by simp [pc_val]
  | b :: bs, h => by
    simp only [pc_val, pc_rep, List.length_cons, List.map_cons]
    rw [pc_and (h b List.mem_cons_self) hm, pc_and0 hm bs (fun x hx => h x (List.mem_cons_of_mem _ hx))]
theorem pc_shr {m q : Nat} (hm : m < 256) (hq : q = 2 ∨ q = 4) (hdec : ∀ b, b < 256 / q → ∀ c, c < q → (b + 256 / q * c) &&& m = b &&& m) : ∀ bs : List Nat, (∀ b ∈ bs, b < 256) → (pc_val bs / q) &&& pc_rep m bs.length = pc_val (bs.map (fun b => (b / q) &&& m))
  | [], _ => by simp [pc_val]
  | b :: bs, h => by
    have hb := h b List.mem_cons_self
    simp only [pc_val, pc_rep, List.length_cons, List.map_cons]
    have e : (b + 256 * pc_val bs) / q = (b / q + 256 / q * (pc_val bs % q)) + 256 * (pc_val bs / q) := by
      rcases hq with rfl | rfl <;> omega
    have hc : pc_val bs % q < q := Nat.mod_lt _ (by omega)
    have hlt : b / q + 256 / q * (pc_val bs % q) < 256 := by rcases hq with rfl | rfl <;> omega
    rw [e, pc_and hlt hm, hdec (b / q) (by rcases hq with rfl | rfl <;> omega) _ hc, pc_shr hm hq hdec bs (fun x hx => h x (List.mem_cons_of_mem _ hx))]
theorem pc_sub {f : Nat → Nat} : ∀ bs : List Nat, (∀ b ∈ bs, f b ≤ b) → pc_val (bs.map f) ≤ pc_val bs ∧ pc_val bs - pc_val (bs.map f) = pc_val (bs.map (fun b => b - f b))
  | [], _ => by simp [pc_val]
  | b :: bs, h => by
    obtain ⟨h1, h2⟩ := pc_sub (f := f) bs (fun x hx => h x (List.mem_cons_of_mem _ hx))
    have := h b List.mem_cons_self
    simp only [pc_val, List.map_cons]
    omega
theorem pc_add {f g : Nat → Nat} : ∀ bs : List Nat, pc_val (bs.map f) + pc_val (bs.map g) = pc_val (bs.map (fun b => f b + g b))
  | [] => by simp [pc_val]
  | b :: bs => by
    have := pc_add (f := f) (g := g) bs
    simp only [pc_val, List.map_cons]
    omega
theorem pc_nib : ∀ bs : List Nat, (∀ b ∈ bs, b / 16 ≤ 4 ∧ b % 16 ≤ 4) → (pc_val bs + pc_val bs / 16) &&& pc_rep 15 bs.length = pc_val (bs.map (fun b => b / 16 + b % 16))
  | [], _ => by simp [pc_val]
  | b :: bs, h => by
    obtain ⟨h1, h2⟩ := h b List.mem_cons_self
    have ih := pc_nib bs (fun x hx => h x (List.mem_cons_of_mem _ hx))
    have hn : pc_val bs % 16 ≤ 4 := by
      cases bs with
      | nil => simp [pc_val]
      | cons c cs =>
        have := (h c (List.mem_cons_of_mem _ List.mem_cons_self)).2
        simp only [pc_val]
        omega
    simp only [pc_val, pc_rep, List.length_cons, List.map_cons]
    rw [show b + 256 * pc_val bs + (b + 256 * pc_val bs) / 16 = (b + b / 16 + 16 * (pc_val bs % 16)) + 256 * (pc_val bs + pc_val bs / 16) by omega, pc_and (by omega) (by omega), ih]
    rw [show (15 : Nat) = 2 ^ 4 - 1 from rfl, Nat.and_two_pow_sub_one_eq_mod]
    omega
def pc_1 (b : Nat) : Nat := b - ((b / 2) &&& 85)
def pc_2 (b : Nat) : Nat := (pc_1 b &&& 51) + ((pc_1 b / 4) &&& 51)
def pc_3 (b : Nat) : Nat := pc_2 b / 16 + pc_2 b % 16
theorem pc_d2 : ∀ b, b < 256 / 2 → ∀ c, c < 2 → (b + 256 / 2 * c) &&& 85 = b &&& 85 := by decide +kernel
theorem pc_d4 : ∀ b, b < 256 / 4 → ∀ c, c < 4 → (b + 256 / 4 * c) &&& 51 = b &&& 51 := by decide +kernel
theorem pc_f1 : ∀ b, b < 256 → ((b / 2) &&& 85) ≤ b ∧ pc_1 b < 256 := by decide +kernel
theorem pc_f2 : ∀ b, b < 256 → pc_2 b < 256 ∧ pc_2 b / 16 ≤ 4 ∧ pc_2 b % 16 ≤ 4 := by decide +kernel
theorem pc_f3 : ∀ b, b < 256 → pc_3 b ≤ 8 ∧ pc_3 b = px_cn (Nat.testBit b) 8 := by decide +kernel
theorem pc_cn_add (P : Nat → Bool) (a : Nat) : ∀ n, px_cn P (a + n) = px_cn P a + px_cn (fun j => P (a + j)) n
  | 0 => rfl
  | n + 1 => by
    rw [← Nat.add_assoc]
    simp only [px_cn]
    rw [pc_cn_add P a n, Nat.add_assoc]
theorem pc_cn_congr {P Q : Nat → Bool} : ∀ n, (∀ j, j < n → P j = Q j) → px_cn P n = px_cn Q n
  | 0, _ => rfl
  | n + 1, h => by
    simp only [px_cn]
    rw [pc_cn_congr n (fun j hj => h j (by omega)), h n (by omega)]
theorem pc_cn_val : ∀ bs : List Nat, (∀ b ∈ bs, b < 256) → px_cn (Nat.testBit (pc_val bs)) (8 * bs.length) = (bs.map pc_3).sum
  | [], _ => rfl
  | b :: bs, h => by
    have hb := h b List.mem_cons_self
    simp only [List.length_cons, List.map_cons, List.sum_cons]
    rw [show 8 * (bs.length + 1) = 8 + 8 * bs.length by omega, pc_cn_add, ← pc_cn_val bs (fun x hx => h x (List.mem_cons_of_mem _ hx)), (pc_f3 b hb).2]
    congr 1
    · apply pc_cn_congr
      intro j hj
      simp only [pc_val]
      rw [show (256 : Nat) = 2 ^ 8 from rfl, Nat.add_comm, Nat.testBit_two_pow_mul_add _ hb, if_pos hj]
    · apply pc_cn_congr
      intro j hj
      simp only [pc_val]
      rw [show (256 : Nat) = 2 ^ 8 from rfl, Nat.add_comm b, Nat.testBit_two_pow_mul_add _ hb, if_neg (by omega), show 8 + j - 8 = j by omega]
theorem pc_bytes (X : Nat) (h : X < 2 ^ 64) : ∃ bs : List Nat, bs.length = 8 ∧ (∀ b ∈ bs, b < 256) ∧ pc_val bs = X := by
  refine ⟨[X % 256, X / 256 % 256, X / 256 / 256 % 256, X / 256 / 256 / 256 % 256, X / 256 / 256 / 256 / 256 % 256, X / 256 / 256 / 256 / 256 / 256 % 256, X / 256 / 256 / 256 / 256 / 256 / 256 % 256, X / 256 / 256 / 256 / 256 / 256 / 256 / 256 % 256], rfl, ?_, ?_⟩
  · intro b hb
    simp only [List.mem_cons, List.not_mem_nil, or_false] at hb
    rcases hb with rfl | rfl | rfl | rfl | rfl | rfl | rfl | rfl <;> exact Nat.mod_lt _ (by decide)
  · have step : ∀ Y : Nat, Y % 256 + 256 * (Y / 256) = Y := fun Y => by omega
    have last : X / 256 / 256 / 256 / 256 / 256 / 256 / 256 % 256 + 256 * 0 = X / 256 / 256 / 256 / 256 / 256 / 256 / 256 := by
      have h7 : X / 256 / 256 / 256 / 256 / 256 / 256 / 256 < 256 := by
        simp only [Nat.div_div_eq_div_mul]
        exact Nat.div_lt_of_lt_mul (by simpa using h)
      omega
    simp only [pc_val]
    rw [last, step, step, step, step, step, step, step]
theorem pc_lt : ∀ bs : List Nat, (∀ b ∈ bs, b < 256) → pc_val bs < 256 ^ bs.length
  | [], _ => by simp [pc_val]
  | b :: bs, h => by
    have := pc_lt bs (fun x hx => h x (List.mem_cons_of_mem _ hx))
    have := h b List.mem_cons_self
    simp only [pc_val, List.length_cons, Nat.pow_succ]
    omega
theorem pc_dbl : ∀ bs : List Nat, pc_val (bs.map (fun b => 2 * b)) = 2 * pc_val bs
  | [] => rfl
  | b :: bs => by
    have := pc_dbl bs
    simp only [pc_val, List.map_cons]
    omega
theorem pc_half (bs : List Nat) (h : ∀ b ∈ bs, b < 128) : 2 * pc_val bs < 256 ^ bs.length := by
  have := pc_lt (bs.map (fun b => 2 * b)) (fun c hc => by obtain ⟨b, hb, rfl⟩ := List.mem_map.mp hc; have := h b hb; omega)
  rwa [pc_dbl, List.length_map] at this
theorem pc_dv1 {c0 : Nat} {cs : List Nat} (h : c0 < 256) : pc_val (c0 :: cs) / 2 ^ 8 = pc_val cs := by
  simp only [pc_val]
  generalize pc_val cs = A
  omega
theorem pc_dv2 {c0 c1 : Nat} {cs : List Nat} (h : c0 < 256) (h1 : c1 < 256) : pc_val (c0 :: c1 :: cs) / 2 ^ 16 = pc_val cs := by
  simp only [pc_val]
  generalize pc_val cs = A
  omega
theorem pc_dv4 {c0 c1 c2 c3 : Nat} {cs : List Nat} (h : c0 < 256) (h1 : c1 < 256) (h2 : c2 < 256) (h3 : c3 < 256) : pc_val (c0 :: c1 :: c2 :: c3 :: cs) / 2 ^ 32 = pc_val cs := by
  simp only [pc_val]
  generalize pc_val cs = A
  omega
theorem pc_addL {c e : Nat} {cs es fs : List Nat} (h : pc_val cs + pc_val es = pc_val fs) : pc_val (c :: cs) + pc_val (e :: es) = pc_val ((c + e) :: fs) := by
  simp only [pc_val]
  omega
theorem pc_add0 (cs : List Nat) : pc_val cs + pc_val [] = pc_val cs := rfl
theorem pc_map {f : Nat → Nat} {bs : List Nat} {m : Nat} (h : ∀ b ∈ bs, f b < m) : ∀ c ∈ bs.map f, c < m := by
  intro c hc
  obtain ⟨b, hb, rfl⟩ := List.mem_map.mp hc
  exact h b hb
theorem pc_main (X : Nat) (hX : X < 2 ^ 64) : Lg_bitCount (lN X) = some (nI (px_cn (Nat.testBit X) 64)) := by
  obtain ⟨bs, hl, hb, rfl⟩ := pc_bytes X hX
  have hlen : ∀ {f : Nat → Nat}, (bs.map f).length = 8 := fun {f} => by rw [List.length_map, hl]
  have r85 : (6148914691236517205 : Int64) = lN (pc_rep 85 8) := by decide
  have r51 : (3689348814741910323 : Int64) = lN (pc_rep 51 8) := by decide
  have r15 : (1085102592571150095 : Int64) = lN (pc_rep 15 8) := by decide
  have l85 : pc_rep 85 8 < 2 ^ 64 := by decide
  have l51 : pc_rep 51 8 < 2 ^ 64 := by decide
  have l15 : pc_rep 15 8 < 2 ^ 64 := by decide
  have p8 : (256 : Nat) ^ 8 = 2 ^ 64 := by decide
  unfold Lg_bitCount
  simp only [px_lt]
  have s1 := wb_shr (n := pc_val bs) (k := 1) hX (by decide)
  have s1 : ((lN (pc_val bs)).toUInt64 >>> ((1 : Int32).toInt64.toUInt64 &&& Int64.toUInt64 63)).toInt64 = lN (pc_val bs / 2 ^ 1) := s1
  have m1 := pc_shr (m := 85) (q := 2) (by decide) (Or.inl rfl) pc_d2 bs hb
  rw [hl] at m1
  have f1 := pc_sub (f := fun b => (b / 2) &&& 85) bs (fun b h => (pc_f1 b (hb b h)).1)
  rw [s1, r85, wb_and (by have := Nat.div_le_self (pc_val bs) (2 ^ 1); omega) l85, show (2 : Nat) ^ 1 = 2 from rfl, m1, lN_sub f1.1, f1.2]
  have b1 : ∀ c ∈ bs.map pc_1, c < 256 := pc_map (fun b h => (pc_f1 b (hb b h)).2)
  have X1 := pc_lt _ b1
  rw [hlen, p8] at X1
  have e1 : bs.map (fun b => b - ((b / 2) &&& 85)) = bs.map pc_1 := rfl
  rw [e1]
  generalize hx1 : pc_val (bs.map pc_1) = x1 at X1 ⊢
  have s2 := wb_shr (n := x1) (k := 2) X1 (by decide)
  have s2 : ((lN x1).toUInt64 >>> ((2 : Int32).toInt64.toUInt64 &&& Int64.toUInt64 63)).toInt64 = lN (x1 / 2 ^ 2) := s2
  have m2 := pc_shr (m := 51) (q := 4) (by decide) (Or.inr rfl) pc_d4 _ b1
  have m2' := pc_and0 (m := 51) (by decide) _ b1
  rw [hlen, hx1] at m2 m2'
  rw [s2, r51, wb_and X1 l51, wb_and (by have := Nat.div_le_self x1 (2 ^ 2); omega) l51, show (2 : Nat) ^ 2 = 4 from rfl, m2, m2', lN_add, pc_add, List.map_map]
  have e2 : bs.map ((fun b => (b &&& 51) + (b / 4 &&& 51)) ∘ pc_1) = bs.map pc_2 := rfl
  rw [e2]
  have b2 : ∀ c ∈ bs.map pc_2, c < 256 := pc_map (fun b h => (pc_f2 b (hb b h)).1)
  have X2 := pc_lt _ b2
  rw [hlen, p8] at X2
  have n3 := pc_nib (bs.map pc_2) (fun c hc => by obtain ⟨b, h, rfl⟩ := List.mem_map.mp hc; exact (pc_f2 b (hb b h)).2)
  rw [hlen] at n3
  have X2' : pc_val (bs.map pc_2) + pc_val (bs.map pc_2) / 16 < 2 ^ 64 := by
    have h := pc_half (bs.map pc_2) (fun c hc => by obtain ⟨b, h, rfl⟩ := List.mem_map.mp hc; have := pc_f2 b (hb b h); omega)
    rw [hlen, p8] at h
    generalize pc_val (bs.map pc_2) = v at h ⊢
    omega
  generalize hx2 : pc_val (bs.map pc_2) = x2 at X2 X2' n3 ⊢
  have s3 := wb_shr (n := x2) (k := 4) X2 (by decide)
  have s3 : ((lN x2).toUInt64 >>> ((4 : Int32).toInt64.toUInt64 &&& Int64.toUInt64 63)).toInt64 = lN (x2 / 2 ^ 4) := s3
  rw [s3, r15, lN_add, show (2 : Nat) ^ 4 = 16 from rfl, wb_and X2' l15, n3, List.map_map]
  have e3 : bs.map ((fun b => b / 16 + b % 16) ∘ pc_2) = bs.map pc_3 := rfl
  rw [e3]
  have hcn := pc_cn_val bs hb
  rw [hl] at hcn
  rw [show (64 : Nat) = 8 * 8 from rfl, hcn]
  have hp : ∀ c ∈ bs.map pc_3, c ≤ 8 := fun c hc => by obtain ⟨b, h, rfl⟩ := List.mem_map.mp hc; exact (pc_f3 b (hb b h)).1
  have hl3 : (bs.map pc_3).length = 8 := hlen
  generalize bs.map pc_3 = ps at hp hl3 ⊢
  match ps, hl3 with
  | [p0, p1, p2, p3, p4, p5, p6, p7], _ =>
    have q0 := hp p0 (by simp)
    have q1 := hp p1 (by simp)
    have q2 := hp p2 (by simp)
    have q3 := hp p3 (by simp)
    have q4 := hp p4 (by simp)
    have q5 := hp p5 (by simp)
    have q6 := hp p6 (by simp)
    have q7 := hp p7 (by simp)
    have big : ∀ {cs : List Nat}, cs.length = 8 → (∀ c ∈ cs, c ≤ 64) → pc_val cs < 2 ^ 64 := fun {cs} h1 h2 => by
      have := pc_lt cs (fun c hc => by have := h2 c hc; omega)
      rwa [h1, p8] at this
    have s4 := wb_shr (n := pc_val [p0, p1, p2, p3, p4, p5, p6, p7]) (k := 8) (big rfl (fun c hc => by have := hp c hc; omega)) (by decide)
    have s4 : ((lN (pc_val [p0, p1, p2, p3, p4, p5, p6, p7])).toUInt64 >>> ((8 : Int32).toInt64.toUInt64 &&& Int64.toUInt64 63)).toInt64 = lN (pc_val [p0, p1, p2, p3, p4, p5, p6, p7] / 2 ^ 8) := s4
    rw [s4, lN_add, pc_dv1 (by omega), pc_addL (pc_addL (pc_addL (pc_addL (pc_addL (pc_addL (pc_addL (pc_add0 _)))))))]
    have s5 := wb_shr (n := pc_val [p0 + p1, p1 + p2, p2 + p3, p3 + p4, p4 + p5, p5 + p6, p6 + p7, p7]) (k := 16) (big rfl (fun c hc => by
      simp only [List.mem_cons, List.not_mem_nil, or_false] at hc
      rcases hc with rfl | rfl | rfl | rfl | rfl | rfl | rfl | rfl <;> omega)) (by decide)
    have s5 : ((lN (pc_val [p0 + p1, p1 + p2, p2 + p3, p3 + p4, p4 + p5, p5 + p6, p6 + p7, p7])).toUInt64 >>> ((16 : Int32).toInt64.toUInt64 &&& Int64.toUInt64 63)).toInt64 = lN (pc_val [p0 + p1, p1 + p2, p2 + p3, p3 + p4, p4 + p5, p5 + p6, p6 + p7, p7] / 2 ^ 16) := s5
    rw [s5, lN_add, pc_dv2 (by omega) (by omega), pc_addL (pc_addL (pc_addL (pc_addL (pc_addL (pc_addL (pc_add0 _))))))]
    have s6 := wb_shr (n := pc_val [p0 + p1 + (p2 + p3), p1 + p2 + (p3 + p4), p2 + p3 + (p4 + p5), p3 + p4 + (p5 + p6), p4 + p5 + (p6 + p7), p5 + p6 + p7, p6 + p7, p7]) (k := 32) (big rfl (fun c hc => by
      simp only [List.mem_cons, List.not_mem_nil, or_false] at hc
      rcases hc with rfl | rfl | rfl | rfl | rfl | rfl | rfl | rfl <;> omega)) (by decide)
    have s6 : ((lN (pc_val [p0 + p1 + (p2 + p3), p1 + p2 + (p3 + p4), p2 + p3 + (p4 + p5), p3 + p4 + (p5 + p6), p4 + p5 + (p6 + p7), p5 + p6 + p7, p6 + p7, p7])).toUInt64 >>> ((32 : Int32).toInt64.toUInt64 &&& Int64.toUInt64 63)).toInt64 = lN (pc_val [p0 + p1 + (p2 + p3), p1 + p2 + (p3 + p4), p2 + p3 + (p4 + p5), p3 + p4 + (p5 + p6), p4 + p5 + (p6 + p7), p5 + p6 + p7, p6 + p7, p7] / 2 ^ 32) := s6
    rw [s6, lN_add, pc_dv4 (by omega) (by omega) (by omega) (by omega), pc_addL (pc_addL (pc_addL (pc_addL (pc_add0 _)))), lN_i]
    generalize hA : [p1 + p2 + (p3 + p4) + (p5 + p6 + p7), p2 + p3 + (p4 + p5) + (p6 + p7), p3 + p4 + (p5 + p6) + p7, p4 + p5 + (p6 + p7), p5 + p6 + p7, p6 + p7, p7] = A
    have ea : ∀ x : Nat, nI x &&& 127 = nI (x % 2 ^ 32 % 2 ^ 7) := fun x => by
      rw [show nI x = nI (x % 2 ^ 32) from by
        apply Int32.toBitVec_inj.mp
        show BitVec.ofNat 32 _ = BitVec.ofNat 32 _
        apply BitVec.eq_of_toNat_eq
        rw [BitVec.toNat_ofNat, BitVec.toNat_ofNat, Nat.mod_mod]]
      exact pk_andN (Nat.mod_lt _ (by decide)) 7 (by decide)
    rw [ea]
    simp only [pc_val, List.sum_cons, List.sum_nil]
    congr 2
    clear s4 s5 s6 ea hA
    generalize pc_val A = B
    omega
