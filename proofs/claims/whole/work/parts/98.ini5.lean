def wd_3 (cf : gm_C) (q : Nat → Nat) (f : Nat → Option Nat) : va_W := [(q 0, .inr (3, [.ref (q 1), .ref (q 6), .ref (q 7), .ref (q 8), .int 0, .int 0, .int 0, .int 0, .int 0, .int 0])), (q 1, .inl (cf.2 4, 4, .inr (.inr (.inr (.inr f))))), (q 2, .inl (cf.2 3, 157, .inr (.inl (fun _ => 0)))), (q 3, .inl (cf.2 3, 157, .inr (.inl (fun _ => 0)))), (q 4, .inl (cf.2 3, 157, .inr (.inl (fun _ => 0)))), (q 5, .inl (cf.2 3, 157, .inr (.inl (fun _ => 0)))), (q 6, .inl (cf.2 0, 4, .inl (fun _ => 0))), (q 7, .inl (cf.2 3, 157, .inr (.inl (fun _ => 0)))), (q 8, .inr (8, [.ref (q 9), .int 0, .int 0])), (q 9, .inl (cf.2 0, 4, .inl (fun _ => 0)))]
def sh_3 (cf : gm_C) (h0 : Nat) (w : va_W) : Prop := ∃ (q : Nat → Nat) (f : Nat → Option Nat), q 0 = h0 ∧ (∀ j, j < 4 → f j = some (q (2 + j))) ∧ w = wd_3 cf q f
theorem wi_c3_9 : Cond.classLink RX3 9 "[[J" ∈ gm_tbl := gm_in_tbl 183 (by decide +kernel) (by decide +kernel)
theorem di3_0 : decode cX3_init 0 = .ok (.aload_n 0, 1) := by decide +kernel
theorem di3_1 : decode cX3_init 1 = .ok (.invokespecial 3, 3) := by decide +kernel
theorem wi_o3 : Cond.methodLink RX3 3 objectInit ∈ gm_tbl := gm_in_tbl 182 (by decide +kernel) (by decide +kernel)
theorem di3_4 : decode cX3_init 4 = .ok (.aload_n 0, 1) := by decide +kernel
theorem di3_5 : decode cX3_init 5 = .ok (.iconst 4, 1) := by decide +kernel
theorem di3_6 : decode cX3_init 6 = .ok (.sipush 157, 3) := by decide +kernel
theorem wi_a_long : Cond.arrayClass .long ∈ gm_tbl := gm_in_tbl 202 (by decide +kernel) (by decide +kernel)
theorem di3_9 : decode cX3_init 9 = .ok (.multianewarray 9 2, 4) := by decide +kernel
theorem wi_f3_11 : Cond.fieldLink RX3 11 RX3 (TX3 0).2.1 (TX3 0).2.2.1 ∈ gm_tbl := gm_in_tbl 203 (by decide +kernel) (by decide +kernel)
theorem di3_13 : decode cX3_init 13 = .ok (.putfield 11, 3) := by decide +kernel
theorem di3_16 : decode cX3_init 16 = .ok (.aload_n 0, 1) := by decide +kernel
theorem di3_17 : decode cX3_init 17 = .ok (.iconst 4, 1) := by decide +kernel
theorem di3_18 : decode cX3_init 18 = .ok (.newarray .int, 2) := by decide +kernel
theorem wi_f3_16 : Cond.fieldLink RX3 16 RX3 (TX3 1).2.1 (TX3 1).2.2.1 ∈ gm_tbl := gm_in_tbl 204 (by decide +kernel) (by decide +kernel)
theorem di3_20 : decode cX3_init 20 = .ok (.putfield 16, 3) := by decide +kernel
theorem di3_23 : decode cX3_init 23 = .ok (.aload_n 0, 1) := by decide +kernel
theorem di3_24 : decode cX3_init 24 = .ok (.sipush 157, 3) := by decide +kernel
theorem di3_27 : decode cX3_init 27 = .ok (.newarray .long, 2) := by decide +kernel
theorem wi_f3_20 : Cond.fieldLink RX3 20 RX3 (TX3 2).2.1 (TX3 2).2.2.1 ∈ gm_tbl := gm_in_tbl 205 (by decide +kernel) (by decide +kernel)
theorem di3_29 : decode cX3_init 29 = .ok (.putfield 20, 3) := by decide +kernel
theorem di3_32 : decode cX3_init 32 = .ok (.aload_n 0, 1) := by decide +kernel
theorem wi_c3_24 : Cond.classLink RX3 24 RX8 ∈ gm_tbl := gm_in_tbl 185 (by decide +kernel) (by decide +kernel)
theorem di3_33 : decode cX3_init 33 = .ok (.new 24, 3) := by decide +kernel
theorem di3_36 : decode cX3_init 36 = .ok (.dup, 1) := by decide +kernel
theorem di3_37 : decode cX3_init 37 = .ok (.invokespecial 26, 3) := by decide +kernel
theorem wi_f3_27 : Cond.fieldLink RX3 27 RX3 (TX3 3).2.1 (TX3 3).2.2.1 ∈ gm_tbl := gm_in_tbl 206 (by decide +kernel) (by decide +kernel)
theorem di3_40 : decode cX3_init 40 = .ok (.putfield 27, 3) := by decide +kernel
theorem di3_43 : decode cX3_init 43 = .ok (.return_, 1) := by decide +kernel
set_option maxHeartbeats 20000000 in
set_option maxRecDepth 20000 in
theorem ini_3 (l : Launch) (cf : gm_C) : gm_Ini l yX3_init cX3_init 1 2 32 9 800 cf 3 fi_3 (sh_3 cf) := by
  refine gm_ini (by decide +kernel) rfl (by decide) ?_
  intro p e s m args below meth c A h0 C hr
  have C : gm_IF p s m args meth c cf A cX3_init 1 RX3 := C
  unfold fi_3
  refine ci_aload C di3_0 rfl 0 rfl ?_
  refine ci_obj C wi_o3 wi_oi wi_oc di3_1 (by decide) (by decide) ?_
  refine ci_aload C di3_4 rfl 0 rfl ?_
  refine ci_iconst (v := 4) C di3_5 (by decide) ?_
  refine ci_sipush (v := 157) C di3_6 (by decide) ?_
  refine ci_mna C wi_c3_9 (by decide +kernel) wi_a_long (Nat.le_of_ble_eq_true rfl) (Nat.le_of_ble_eq_true rfl) di3_9 (fun q1 r f hfr => ?_)
  refine ci_putF (k := 0) (ty1 := .array (.array .long)) C kc_3 (by decide) rfl rfl rfl (by decide +kernel) rfl rfl (Nat.le_of_ble_eq_true rfl) wi_f3_11 di3_13 ?_
  refine ci_aload C di3_16 rfl 0 rfl ?_
  refine ci_iconst (v := 4) C di3_17 (by decide) ?_
  refine ci_newa (atype := .int) (ty := .int) (N' := 4) (j := 0) (a0 := (4, .inl (fun _ => 0))) C wi_a_int rfl rfl (fun _ => rfl) (by decide) (by decide) (Nat.le_of_ble_eq_true rfl) (Nat.le_of_ble_eq_true rfl) (Nat.le_of_ble_eq_true rfl) di3_18 (fun q2 => ?_)
  refine ci_putF (k := 1) (ty1 := .array .int) C kc_3 (by decide) rfl rfl rfl (by decide +kernel) rfl rfl (Nat.le_of_ble_eq_true rfl) wi_f3_16 di3_20 ?_
  refine ci_aload C di3_23 rfl 0 rfl ?_
  refine ci_sipush (v := 157) C di3_24 (by decide) ?_
  refine ci_newa (atype := .long) (ty := .long) (N' := 157) (j := 3) (a0 := (157, .inr (.inl (fun _ => 0)))) C wi_a_long rfl rfl (fun _ => rfl) (by decide) (by decide) (Nat.le_of_ble_eq_true rfl) (Nat.le_of_ble_eq_true rfl) (Nat.le_of_ble_eq_true rfl) di3_27 (fun q3 => ?_)
  refine ci_putF (k := 2) (ty1 := .array .long) C kc_3 (by decide) rfl rfl rfl (by decide +kernel) rfl rfl (Nat.le_of_ble_eq_true rfl) wi_f3_20 di3_29 ?_
  refine ci_aload C di3_32 rfl 0 rfl ?_
  refine ci_mk C (ini_8 l cf) kc_8 yi_8 wi_c3_24 wi_n8 wi_i8 (fun j hj => by rcases (show j = 0 ∨ j = 1 ∨ j = 2 by omega) with rfl | rfl | rfl <;> rfl) (Or.inl (by decide +kernel)) ⟨Nat.le_of_ble_eq_true rfl, Nat.le_of_ble_eq_true rfl⟩ (Nat.le_of_ble_eq_true rfl) (Nat.le_of_ble_eq_true rfl) (Nat.le_of_ble_eq_true rfl) di3_33 di3_36 di3_37 (fun q4 w4 s4 => ?_)
  refine ci_putF (k := 3) (ty1 := .object RX8) C kc_3 (by decide) rfl rfl rfl (by decide +kernel) rfl rfl (Nat.le_of_ble_eq_true rfl) wi_f3_27 di3_40 ?_
  refine ci_ret C hr di3_43 (fun _ h1 h2 => ⟨h1, h2⟩) ?_
  obtain ⟨r', rfl, rfl⟩ := s4
  exact ⟨fun i => [h0, q1, r 0, r 1, r 2, r 3, q2, q3, r' 0, r' 1].getD i 0, f, rfl, fun j hj => by rcases (show j = 0 ∨ j = 1 ∨ j = 2 ∨ j = 3 by omega) with rfl | rfl | rfl | rfl <;> exact hfr _ (by omega), rfl⟩
def wd_t (cf : gm_C) (qq : Nat → Nat → Nat) : Nat → va_W
  | 0 => []
  | i + 1 => wd_t cf qq i ++ wd_9 cf (qq i)
theorem wd_t_c (cf : gm_C) {qq qq' : Nat → Nat → Nat} : ∀ i, (∀ k, k < i → qq' k = qq k) → wd_t cf qq' i = wd_t cf qq i
  | 0, _ => rfl
  | i + 1, h => by simp only [wd_t]; rw [wd_t_c cf i (fun k hk => h k (by omega)), h i (by omega)]
def wd_4 (cf : gm_C) (h0 r : Nat) (f : Nat → Option Nat) (qq : Nat → Nat → Nat) (n : Nat) : va_W := (h0, .inr (4, [.ref r, .int 0, .int 0])) :: (r, .inl (cf.2 5, 16, .inr (.inr (.inr (.inr f))))) :: wd_t cf qq n
def sh_4 (cf : gm_C) (h0 : Nat) (w : va_W) : Prop := ∃ (r : Nat) (f : Nat → Option Nat) (qq : Nat → Nat → Nat), (∀ j, j < 16 → f j = some (qq j 0)) ∧ w = wd_4 cf h0 r f qq 16
theorem di4_15 : decode cX4_init 15 = .ok (.iload_n 1, 1) := by decide +kernel
theorem di4_16 : decode cX4_init 16 = .ok (.bipush 16, 2) := by decide +kernel
theorem di4_18 : decode cX4_init 18 = .ok (.if_icmp .ge 22, 3) := by decide +kernel
theorem di4_21 : decode cX4_init 21 = .ok (.aload_n 0, 1) := by decide +kernel
theorem di4_22 : decode cX4_init 22 = .ok (.getfield 11, 3) := by decide +kernel
theorem di4_25 : decode cX4_init 25 = .ok (.iload_n 1, 1) := by decide +kernel
theorem di4_33 : decode cX4_init 33 = .ok (.aastore, 1) := by decide +kernel
theorem di4_34 : decode cX4_init 34 = .ok (.iinc 1 1, 3) := by decide +kernel
theorem di4_37 : decode cX4_init 37 = .ok (.goto (-22), 3) := by decide +kernel
theorem di4_40 : decode cX4_init 40 = .ok (.return_, 1) := by decide +kernel
theorem di4_13 : decode cX4_init 13 = .ok (.iconst 0, 1) := by decide +kernel
theorem di4_14 : decode cX4_init 14 = .ok (.istore_n 1, 1) := by decide +kernel
theorem wi_c4_9 : Cond.classLink RX4 9 RX9 ∈ gm_tbl := gm_in_tbl 241 (by decide +kernel) (by decide +kernel)
theorem di4_26 : decode cX4_init 26 = .ok (.new 9, 3) := by decide +kernel
theorem di4_29 : decode cX4_init 29 = .ok (.dup, 1) := by decide +kernel
theorem di4_30 : decode cX4_init 30 = .ok (.invokespecial 17, 3) := by decide +kernel
theorem wi_f4_11 : Cond.fieldLink RX4 11 RX4 (TX4 0).2.1 (TX4 0).2.2.1 ∈ gm_tbl := gm_in_tbl 244 (by decide +kernel) (by decide +kernel)
set_option maxHeartbeats 20000000 in
theorem pa_loop {p : Program} {l : Launch} {e : Env} {s : State} {m : MethodId} {args : Array Value} {below : List Frame} {meth : Method} {c : Code} {Q : State → Prop} {cf : gm_C} {A : Nat → Prop} {h0 r : Nat} (C : gm_IF p s m args meth c cf A cX4_init 2 RX4)
    (fin : ∀ (f : Nat → Option Nat) (qq : Nat → Nat → Nat), (∀ j, j < 16 → f j = some (qq j 0)) → gm_I p l e { frames := 2, cells := 65, slots := 752, locals := 32 } s m args below meth c Q cf A 2 (wd_4 cf h0 r f qq 16) 65 752 40 [(1, .int (nI 16)), (0, .ref h0)] []) :
    ∀ (k i : Nat) (f : Nat → Option Nat) (qq : Nat → Nat → Nat), i + k = 16 → (∀ j, j < i → f j = some (qq j 0)) → gm_I p l e { frames := 2, cells := 65, slots := 752, locals := 32 } s m args below meth c Q cf A 2 (wd_4 cf h0 r f qq i) (1 + 4 * i) (16 + 46 * i) 15 [(1, .int (nI i)), (0, .ref h0)] [] := by
  intro k
  induction k with
  | zero =>
    intro i f qq hi hf
    have : i = 16 := by omega
    subst this
    refine ci_iload C di4_15 rfl 0 rfl ?_
    refine ci_bipush (v := 16) C di4_16 (by decide) ?_
    refine ci_icmp_ge C 40 di4_18 (by decide) (fun _ => fin f qq hf) (fun h => absurd (show (16 : Int32) ≤ nI 16 by decide) h)
  | succ k ih =>
    intro i f qq hi hf
    refine ci_iload C di4_15 rfl 0 rfl ?_
    refine ci_bipush (v := 16) C di4_16 (by decide) ?_
    refine ci_icmp_ge C 40 di4_18 (by decide) (fun h => absurd ((nI_leI (a := 16) (b := i) (by omega) (by omega)).mp h) (by omega)) (fun _ => ?_)
    refine ci_aload C di4_21 rfl 1 rfl ?_
    refine ci_get (k := 0) (x := r) C kc_4 (by decide) rfl rfl wi_f4_11 di4_22 ?_
    refine ci_iload C di4_25 rfl 0 rfl ?_
    refine ci_mk C (ini_9 l cf) kc_9 yi_9 wi_c4_9 wi_n9 wi_i9 (fun j hj => by rcases (show j = 0 ∨ j = 1 ∨ j = 2 ∨ j = 3 ∨ j = 4 ∨ j = 5 ∨ j = 6 ∨ j = 7 ∨ j = 8 by omega) with rfl | rfl | rfl | rfl | rfl | rfl | rfl | rfl | rfl <;> rfl) (Or.inl (by decide +kernel)) ⟨Nat.le_of_ble_eq_true rfl, Nat.le_of_ble_eq_true rfl⟩ (by show 1 + 4 * i + 1 + 3 ≤ 65; omega) (by show 16 + 46 * i + 9 + 37 ≤ 752; omega) (Nat.le_of_ble_eq_true rfl) di4_26 di4_29 di4_30 (fun q w hw => ?_)
    obtain ⟨q', rfl, rfl⟩ := hw
    have ew : wd_4 cf h0 r f qq i ++ wd_9 cf q' = [(h0, .inr (4, [.ref r, .int 0, .int 0]))] ++ (r, .inl (cf.2 5, 16, .inr (.inr (.inr (.inr f))))) :: (wd_t cf qq i ++ wd_9 cf q') := rfl
    refine ci_w ew ?_
    refine ci_ast (t0 := 5) (r := (RX9, TX9, 9)) (ci := 9) (qk := 2 + (wd_t cf qq i).length) C rfl (by
      rw [List.getElem?_append_right (by simp; omega)]
      simp only [List.length_cons, List.length_nil]
      rw [show 2 + (wd_t cf qq i).length - (0 + 1) = (wd_t cf qq i).length + 1 by omega, List.getElem?_cons_succ, List.getElem?_append_right (Nat.le_refl _), Nat.sub_self]
      rfl) rfl (by
      unfold vp_in
      rw [nI_clamp (by omega)]
      intro z
      rcases z with z | z
      · exact nI_pos (by omega) z
      · omega) di4_33 ?_
    rw [nI_clamp (by omega)]
    refine ci_iinc (j := 0) (v := nI (i + 1)) C di4_34 rfl (nI_1 i).symm (by decide) rfl ?_
    refine ci_goto C 15 di4_37 (by decide) ?_
    have e2 : ([(h0, .inr (4, [.ref r, .int 0, .int 0]))] ++ (r, .inl (cf.2 5, 16, .inr (.inr (.inr (.inr (va_up f i (some (q' 0)))))))) :: (wd_t cf qq i ++ wd_9 cf q') : va_W) = wd_4 cf h0 r (va_up f i (some (q' 0))) (fun j => if j = i then q' else qq j) (i + 1) := by
      have e3 := wd_t_c cf (qq := qq) (qq' := fun j => if j = i then q' else qq j) i (fun k hk => if_neg (by omega))
      unfold wd_4
      simp only [wd_t, if_true]
      rw [e3]
      rfl
    refine ci_w e2 ?_
    have hcells : 1 + 4 * i + 1 + 3 = 1 + 4 * (i + 1) := by omega
    have hslots : 16 + 46 * i + 9 + 37 = 16 + 46 * (i + 1) := by omega
    rw [hcells, hslots]
    exact ih (i + 1) _ _ (by omega) (fun j hj => by
      by_cases ej : j = i
      · rw [ej, va_up_self, if_pos rfl]
      · rw [va_up_ne _ _ ej, if_neg ej]
        exact hf j (by omega))
theorem di4_0 : decode cX4_init 0 = .ok (.aload_n 0, 1) := by decide +kernel
theorem di4_1 : decode cX4_init 1 = .ok (.invokespecial 3, 3) := by decide +kernel
theorem wi_o4 : Cond.methodLink RX4 3 objectInit ∈ gm_tbl := gm_in_tbl 240 (by decide +kernel) (by decide +kernel)
theorem di4_4 : decode cX4_init 4 = .ok (.aload_n 0, 1) := by decide +kernel
theorem di4_5 : decode cX4_init 5 = .ok (.bipush 16, 2) := by decide +kernel
theorem di4_7 : decode cX4_init 7 = .ok (.anewarray 9, 3) := by decide +kernel
theorem di4_10 : decode cX4_init 10 = .ok (.putfield 11, 3) := by decide +kernel
set_option maxHeartbeats 20000000 in
set_option maxRecDepth 20000 in
theorem ini_4 (l : Launch) (cf : gm_C) : gm_Ini l yX4_init cX4_init 2 2 32 65 752 cf 4 fi_4 (sh_4 cf) := by
  refine gm_ini (by decide +kernel) rfl (by decide) ?_
  intro p e s m args below meth c A h0 C hr
  have C : gm_IF p s m args meth c cf A cX4_init 2 RX4 := C
  unfold fi_4
  refine ci_aload C di4_0 rfl 0 rfl ?_
  refine ci_obj C wi_o4 wi_oi wi_oc di4_1 (by decide) (by decide) ?_
  refine ci_aload C di4_4 rfl 0 rfl ?_
  refine ci_bipush (v := 16) C di4_5 (by decide) ?_
  refine ci_newq (N' := 16) (j := 5) C wi_c4_9 (by decide +kernel) rfl (by decide) (by decide) (Nat.le_of_ble_eq_true rfl) (Nat.le_of_ble_eq_true rfl) (Nat.le_of_ble_eq_true rfl) di4_7 (fun r => ?_)
  refine ci_putF (k := 0) (ty1 := .array (.object RX9)) C kc_4 (by decide) rfl rfl rfl (by decide +kernel) rfl rfl (Nat.le_of_ble_eq_true rfl) wi_f4_11 di4_10 ?_
  refine ci_iconst (v := 0) C di4_13 (by decide) ?_
  refine ci_istore (lv' := [(1, .int 0), (0, .ref h0)]) C di4_14 rfl (by decide) rfl ?_
  exact pa_loop C (fun f qq hf => ci_ret C hr di4_40 (fun _ h1 h2 => ⟨h1, h2⟩) ⟨r, f, qq, hf, rfl⟩) 16 0 (fun _ => none) (fun _ _ => 0) rfl (fun j hj => absurd hj (by omega))
