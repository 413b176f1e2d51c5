def la_A (s : State) : Nat → Prop := fun q => s.heap.size ≤ q
def la_Ap (s : State) (adC adM : Nat → Nat) : Prop := (∀ i, i < 106 → la_A s (adC i)) ∧ (∀ i, i < 17 → la_A s (adM i)) ∧ (∀ i j, i < 106 → j < 106 → adC i = adC j → i = j) ∧ (∀ i j, i < 17 → j < 17 → adM i = adM j → i = j) ∧ (∀ i j, i < 106 → j < 17 → adC i ≠ adM j)
theorem gm_W_in {cf : gm_C} {ad : Nat → Nat} {sh : gm_H} {N k : Nat} {S : gm_M} {q : Nat × va_E} (h : (gm_W cf ad sh N S)[k]? = some q) : k < N ∧ q.1 = ad k := by
  have hk : k < N := by have := (List.getElem?_eq_some_iff.mp h).1; simpa [gm_W] using this
  rw [gm_at hk] at h
  cases h
  exact ⟨hk, rfl⟩
theorem gm_D {cf : gm_C} {ad : Nat → Nat} {sh : gm_H} {N : Nat} {S : gm_M} (h : ∀ i j, i < N → j < N → ad i = ad j → i = j) : va_D (gm_A ad N) (gm_W cf ad sh N S) := by
  refine ⟨fun i j x y hx hy hxy => ?_, fun k q hq => ?_⟩
  · obtain ⟨a1, a2⟩ := gm_W_in hx
    obtain ⟨b1, b2⟩ := gm_W_in hy
    exact h i j a1 b1 (by rw [← a2, ← b2]; exact hxy)
  · obtain ⟨a1, a2⟩ := gm_W_in hq
    exact ⟨k, a1, a2.symm⟩
def gm_LF (p : Program) (s : State) (m : MethodId) (args : Array Value) (meth : Method) (c : Code) (cf : gm_C) (adC adM : Nat → Nat) (b L : Nat) (xs : Nat → Int32) : Prop :=
  p.tables.exec = Jvm.exec ∧ c.code = code ∧ c.maxLocals = 4 ∧ s.vm.findClass R_law = some m.cls ∧ (∀ w ∈ gm_tbl, w.before args s = true) ∧ va_K cf.1 gm_cls (gm_tys cf) s ∧ gm_Z (la_A s) s s.heap ∧ va_X b L xs s s.heap ∧ b < s.heap.size ∧ la_Ap s adC adM
def gm_L (p : Program) (l : Launch) (e : Env) (s : State) (m : MethodId) (args : Array Value) (below : List Frame) (meth : Method) (c : Code) (Q : State → Prop) (cf : gm_C) (adC adM : Nat → Nat) (C M : gm_M) (pc : Nat) (lv : List (Nat × Value)) (st : List Value) : Prop :=
  ∀ (H : Heap) (locs : List Loc) (ls : Array Slot), va_P cf.1 gm_cls (gm_W cf adC gm_sC 106 C) H → va_P cf.1 gm_cls (gm_W cf adM gm_sM 17 M) H → va_S (la_A s) s.heap H locs → lv_has ls 4 lv → W p l e room_1 s m args below meth c H locs 123 3388 Q (F0 m pc ls st)
section LA
variable {p : Program} {l : Launch} {e : Env} {s : State} {m : MethodId} {args : Array Value} {below : List Frame} {meth : Method} {c : Code} {Q : State → Prop} {cf : gm_C} {adC adM : Nat → Nat} {b L : Nat} {xs : Nat → Int32} {C M C1 M1 : gm_M} {pc : Nat} {lv : List (Nat × Value)} {st rest : List Value} {y : MethodName} {bb : ByteArray} {maxL n index fr lo : Nat} {rty : Option FieldType} {As : List Value} {rv : Option Value}
theorem la_aload (F : gm_LF p s m args meth c cf adC adM b L xs) {k : Fin 4} {i x : Nat} (hd : decode code pc = .ok (.aload_n k, 1)) (hi : (k : Nat) = i) (j : Nat) (hj : lv[j]? = some (i, .ref x)) (kk : gm_L p l e s m args below meth c Q cf adC adM C M (pc + 1) lv (.ref x :: st)) : gm_L p l e s m args below meth c Q cf adC adM C M pc lv st := fun H locs ls hP hM hS hl => lv_aload_n F.1 F.2.1 hd hi (lv_at hl j hj) (kk H locs ls hP hM hS hl)
theorem la_iload (F : gm_LF p s m args meth c cf adC adM b L xs) {k : Fin 4} {i : Nat} {x : Int32} (hd : decode code pc = .ok (.iload_n k, 1)) (hi : (k : Nat) = i) (j : Nat) (hj : lv[j]? = some (i, .int x)) (kk : gm_L p l e s m args below meth c Q cf adC adM C M (pc + 1) lv (.int x :: st)) : gm_L p l e s m args below meth c Q cf adC adM C M pc lv st := fun H locs ls hP hM hS hl => lv_iload_n F.1 F.2.1 hd hi (lv_at hl j hj) (kk H locs ls hP hM hS hl)
theorem la_iconst (F : gm_LF p s m args meth c cf adC adM b L xs) {n : Int} {v : Int32} (hd : decode code pc = .ok (.iconst n, 1)) (hv : Int32.ofInt n = v) (kk : gm_L p l e s m args below meth c Q cf adC adM C M (pc + 1) lv (.int v :: st)) : gm_L p l e s m args below meth c Q cf adC adM C M pc lv st := fun H locs ls hP hM hS hl => lv_iconst F.1 F.2.1 hd hv (kk H locs ls hP hM hS hl)
theorem la_bipush (F : gm_LF p s m args meth c cf adC adM b L xs) {n : Int} {v : Int32} (hd : decode code pc = .ok (.bipush n, 2)) (hv : (Int8.ofInt n).toInt32 = v) (kk : gm_L p l e s m args below meth c Q cf adC adM C M (pc + 2) lv (.int v :: st)) : gm_L p l e s m args below meth c Q cf adC adM C M pc lv st := fun H locs ls hP hM hS hl => lv_bipush F.1 F.2.1 hd hv (kk H locs ls hP hM hS hl)
theorem la_iadd (F : gm_LF p s m args meth c cf adC adM b L xs) {x y : Int32} (hd : decode code pc = .ok (.iadd, 1)) (kk : gm_L p l e s m args below meth c Q cf adC adM C M (pc + 1) lv (.int (x + y) :: st)) : gm_L p l e s m args below meth c Q cf adC adM C M pc lv (.int y :: .int x :: st) := fun H locs ls hP hM hS hl => lv_iadd F.1 F.2.1 hd (kk H locs ls hP hM hS hl)
theorem la_isub (F : gm_LF p s m args meth c cf adC adM b L xs) {x y : Int32} (hd : decode code pc = .ok (.isub, 1)) (kk : gm_L p l e s m args below meth c Q cf adC adM C M (pc + 1) lv (.int (x - y) :: st)) : gm_L p l e s m args below meth c Q cf adC adM C M pc lv (.int y :: .int x :: st) := fun H locs ls hP hM hS hl => lv_isub F.1 F.2.1 hd (kk H locs ls hP hM hS hl)
theorem la_iand (F : gm_LF p s m args meth c cf adC adM b L xs) {x y : Int32} (hd : decode code pc = .ok (.iand, 1)) (kk : gm_L p l e s m args below meth c Q cf adC adM C M (pc + 1) lv (.int (x &&& y) :: st)) : gm_L p l e s m args below meth c Q cf adC adM C M pc lv (.int y :: .int x :: st) := fun H locs ls hP hM hS hl => lv_iand F.1 F.2.1 hd (kk H locs ls hP hM hS hl)
theorem la_gt (F : gm_LF p s m args meth c cf adC adM b L xs) {x y : Int32} {off : Int} (tgt : Nat) (hd : decode code pc = .ok (.if_icmp .gt off, 3)) (ht : (pc : Int) + off = (tgt : Int)) (kt : y < x → gm_L p l e s m args below meth c Q cf adC adM C M tgt lv st) (kf : ¬ y < x → gm_L p l e s m args below meth c Q cf adC adM C M (pc + 3) lv st) : gm_L p l e s m args below meth c Q cf adC adM C M pc lv (.int y :: .int x :: st) := fun H locs ls hP hM hS hl => lv_icmp_gt F.1 F.2.1 hd ht (fun h => kt h H locs ls hP hM hS hl) (fun h => kf h H locs ls hP hM hS hl)
theorem la_eqI (F : gm_LF p s m args meth c cf adC adM b L xs) {x : Int32} {off : Int} (tgt : Nat) (hd : decode code pc = .ok (.if_icmp .eq off, 3)) (ht : (pc : Int) + off = (tgt : Int)) (kt : gm_L p l e s m args below meth c Q cf adC adM C M tgt lv st) : gm_L p l e s m args below meth c Q cf adC adM C M pc lv (.int x :: .int x :: st) := fun H locs ls hP hM hS hl => lv_icmp_eq F.1 F.2.1 hd ht (fun _ => kt H locs ls hP hM hS hl) (fun h => absurd rfl h)
theorem la_ifeq (F : gm_LF p s m args meth c cf adC adM b L xs) {x : Int32} {off : Int} (tgt : Nat) (hd : decode code pc = .ok (.ifCond .eq off, 3)) (ht : (pc : Int) + off = (tgt : Int)) (kt : x = 0 → gm_L p l e s m args below meth c Q cf adC adM C M tgt lv st) (kf : ¬ x = 0 → gm_L p l e s m args below meth c Q cf adC adM C M (pc + 3) lv st) : gm_L p l e s m args below meth c Q cf adC adM C M pc lv (.int x :: st) := fun H locs ls hP hM hS hl => lv_if_eq F.1 F.2.1 hd ht (fun h => kt h H locs ls hP hM hS hl) (fun h => kf h H locs ls hP hM hS hl)
theorem la_goto (F : gm_LF p s m args meth c cf adC adM b L xs) {off : Int} (tgt : Nat) (hd : decode code pc = .ok (.goto off, 3)) (ht : (pc : Int) + off = (tgt : Int)) (kk : gm_L p l e s m args below meth c Q cf adC adM C M tgt lv st) : gm_L p l e s m args below meth c Q cf adC adM C M pc lv st := fun H locs ls hP hM hS hl => lv_goto F.1 F.2.1 hd ht (kk H locs ls hP hM hS hl)
theorem la_iinc (F : gm_LF p s m args meth c cf adC adM b L xs) {i j : Nat} {n : Int} {x v : Int32} {lv' : List (Nat × Value)} (hd : decode code pc = .ok (.iinc i n, 3)) (hj : lv[j]? = some (i, .int x)) (hv : v = x + Int32.ofInt n) (hn : i < 4) (hl' : (i, Value.int v) :: lv.filter (fun q => !(q.1 == i) && !(q.1 + 1 == i && q.2.category == 2)) = lv') (kk : gm_L p l e s m args below meth c Q cf adC adM C M (pc + 3) lv' st) : gm_L p l e s m args below meth c Q cf adC adM C M pc lv st := fun H locs ls hP hM hS hl => lv_iinc F.1 F.2.1 hd hl hj hv.symm hn hl' (fun ls' hls => kk H locs ls' hP hM hS hls)
theorem la_tin (F : gm_LF p s m args meth c cf adC adM b L xs) {dflt lo hi : Int} {offs : Array Int} {len : Nat} {x : Int32} {off : Int} (tgt : Nat) (hd : decode code pc = .ok (.tableswitch dflt lo hi offs, len)) (h1 : ¬ x.toInt < lo) (h2 : ¬ hi < x.toInt) (ho : offs[(x.toInt - lo).toNat]? = some off) (ht : (pc : Int) + off = (tgt : Int)) (kk : gm_L p l e s m args below meth c Q cf adC adM C M tgt lv st) : gm_L p l e s m args below meth c Q cf adC adM C M pc lv (.int x :: st) := fun H locs ls hP hM hS hl => lv_tableIn F.1 F.2.1 hd h1 h2 ho ht (kk H locs ls hP hM hS hl)
theorem la_tout (F : gm_LF p s m args meth c cf adC adM b L xs) {dflt lo hi : Int} {offs : Array Int} {len : Nat} {x : Int32} (tgt : Nat) (hd : decode code pc = .ok (.tableswitch dflt lo hi offs, len)) (h1 : x.toInt < lo ∨ hi < x.toInt) (ht : (pc : Int) + dflt = (tgt : Int)) (kk : gm_L p l e s m args below meth c Q cf adC adM C M tgt lv st) : gm_L p l e s m args below meth c Q cf adC adM C M pc lv (.int x :: st) := fun H locs ls hP hM hS hl => lv_tableOut F.1 F.2.1 hd h1 ht (kk H locs ls hP hM hS hl)
theorem la_len (F : gm_LF p s m args meth c cf adC adM b L xs) (hd : decode code pc = .ok (.arraylength, 1)) (kk : gm_L p l e s m args below meth c Q cf adC adM C M (pc + 1) lv (.int (nI L) :: st)) : gm_L p l e s m args below meth c Q cf adC adM C M pc lv (.ref b :: st) := fun H locs ls hP hM hS hl => va_slen F.1 F.2.1 F.2.2.2.2.2.2.2.1 F.2.2.2.2.2.2.2.2.1 (fun h => Nat.not_le.mpr F.2.2.2.2.2.2.2.2.1 h) hS hd (kk H locs ls hP hM hS hl)
theorem la_sld (F : gm_LF p s m args meth c cf adC adM b L xs) {i : Nat} (hi : i < L) (hL : L < 2 ^ 31) (hd : decode code pc = .ok (.iaload, 1)) (kk : gm_L p l e s m args below meth c Q cf adC adM C M (pc + 1) lv (.int (xs i) :: st)) : gm_L p l e s m args below meth c Q cf adC adM C M pc lv (.int (nI i) :: .ref b :: st) := fun H locs ls hP hM hS hl => by
  have e : (nI i).toNatClampNeg = i := nI_clamp (by omega)
  refine va_sld F.1 F.2.1 F.2.2.2.2.2.2.2.1 F.2.2.2.2.2.2.2.2.1 (fun h => Nat.not_le.mpr F.2.2.2.2.2.2.2.2.1 h) hS (i := nI i) (by
    unfold vp_in
    rw [e]
    intro z
    rcases z with z | z
    · exact nI_pos (by omega) z
    · omega) hd ?_
  rw [e]
  exact kk H locs ls hP hM hS hl
theorem la_arg (F : gm_LF p s m args meth c cf adC adM b L xs) {i j : Nat} {k : Int} (hi : i + j < L) (hL : L < 2 ^ 31) (hl0 : lv[3]? = some (0, .ref b)) (hl3 : lv[0]? = some (3, .int (nI i))) (hj : Int32.ofInt k = nI j) (d0 : decode code pc = .ok (.aload_n 0, 1)) (d1 : decode code (pc + 1) = .ok (.iload_n 3, 1)) (d2 : decode code (pc + 2) = .ok (.iconst k, 1)) (d3 : decode code (pc + 3) = .ok (.iadd, 1)) (d4 : decode code (pc + 4) = .ok (.iaload, 1))
    (kk : gm_L p l e s m args below meth c Q cf adC adM C M (pc + 5) lv (.int (xs (i + j)) :: st)) : gm_L p l e s m args below meth c Q cf adC adM C M pc lv st := by
  refine la_aload F d0 rfl 3 hl0 ?_
  refine la_iload F d1 rfl 0 hl3 ?_
  refine la_iconst F d2 hj ?_
  refine la_iadd F d3 ?_
  rw [nI_add]
  exact la_sld F hi hL d4 kk
theorem la_kept {ad ad' : Nat → Nat} {sh' : gm_H} {N N' : Nat} {S : gm_M} {H H1 : Heap} (hap : ∀ i j, i < N → j < N' → ad i ≠ ad' j) (hP : va_P cf.1 gm_cls (gm_W cf ad' sh' N' S) H) (hk : ∀ q : Nat, q < H.size → ¬ gm_A ad N q → H1[q]? = H[q]?) : va_P cf.1 gm_cls (gm_W cf ad' sh' N' S) H1 := by
  intro k q hq
  obtain ⟨h1, h2⟩ := gm_W_in hq
  refine (hP k q hq).kept (hk q.1 (hP k q hq).lt (fun z => ?_))
  obtain ⟨i, i1, i2⟩ := z
  exact hap i k i1 h1 (by rw [i2, h2])
theorem la_S {ad : Nat → Nat} {N : Nat} {H H1 : Heap} {locs Ls : List Loc} (hin : ∀ i, i < N → la_A s (ad i)) (hS : va_S (la_A s) s.heap H locs) (hz : H.size ≤ H1.size) (hk : ∀ q : Nat, q < H.size → ¬ gm_A ad N q → H1[q]? = H[q]?) (hL : ∀ q ∈ Ls, gm_A ad N q.base) : va_S (la_A s) s.heap H1 (locs ++ Ls) := by
  have hsub : ∀ q, gm_A ad N q → la_A s q := fun q z => by
    obtain ⟨i, i1, i2⟩ := z
    rw [← i2]; exact hin i i1
  refine ⟨Nat.le_trans hS.1 hz, fun q h1 h2 => ?_, fun q hq => ?_⟩
  · rw [hk q (Nat.lt_of_lt_of_le h1 hS.1) (fun z => h2 (hsub q z))]
    exact hS.2.1 q h1 h2
  · rcases List.mem_append.mp hq with h | h
    · exact hS.2.2 q h
    · exact hsub _ (hL q h)
theorem la_run (F : gm_LF p s m args meth c cf adC adM b L xs) {ad : Nat → Nat} {sh : gm_H} {N : Nat} {S S1 : gm_M} {ci nf : Nat} {Cn : String} {T : u_T} {ty : Nat → FieldType} {H : Heap} {locs : List Loc} {ls : Array Slot} (hinj : ∀ i j, i < N → j < N → ad i = ad j → i = j) (hin : ∀ i, i < N → la_A s (ad i)) (hN : 0 < N) (hM : gm_Met l y bb maxL rty fr lo cf ad sh N (.ref (ad 0) :: As) S rv S1) (hk : (sh 0).1 = ci) (K : gm_kc ci Cn T nf ty) (hy : gm_yv y bb maxL rty n) (hc : y.cls = Cn) (hw : Cond.methodLink R_law index y ∈ gm_tbl) (hn : As.length = n) (hR : fr + 1 ≤ 11 ∧ 8 + (maxL + 11) + lo ≤ 426) (hro : (rest.map fun v => v.category).sum ≤ 8) (hd : decode code pc = .ok (.invokevirtual index, 3)) (hP : va_P cf.1 gm_cls (gm_W cf ad sh N S) H) (hS : va_S (la_A s) s.heap H locs) (hl : lv_has ls 4 lv)
    (kk : ∀ (H1 : Heap) (Ls : List Loc), va_P cf.1 gm_cls (gm_W cf ad sh N S1) H1 → H.size ≤ H1.size → (∀ q : Nat, q < H.size → ¬ gm_A ad N q → H1[q]? = H[q]?) → (∀ q ∈ Ls, gm_A ad N q.base) → W p l e room_1 s m args below meth c H1 (locs ++ Ls) 123 3388 Q (F0 m (pc + 3) ls (rv.toList ++ rest))) : W p l e room_1 s m args below meth c H locs 123 3388 Q (F0 m pc ls (As.reverse ++ .ref (ad 0) :: rest)) := by
  obtain ⟨hx, hb, hml, hown, hts, hK, hZ, hX, hbl, hap⟩ := F
  subst hc
  have he := gm_at (cf := cf) (ad := ad) (sh := sh) (S := S) hN
  rw [gm_obj hk K.1] at he
  have hsub : ∀ q, gm_A ad N q → la_A s q := fun q z => by
    obtain ⟨i, i1, i2⟩ := z
    rw [← i2]; exact hin i i1
  have hpre : ∀ U : State, U.heap = H → s.WarmedH U.vm → gm_P cf ad sh N (.ref (ad 0) :: As) S (Value.ref (ad 0) :: As).toArray U := by
    intro U hU hW
    refine ⟨rfl, by rw [hU]; exact hP, va_K.moved hW.alike hK, gm_D hinj, ?_⟩
    rw [hU]
    exact ((hZ.kept hS.2.1).narrow hsub).moved hW.alike
  have run := va_runV (p := p) (l := l) (e := e) (R := room_1) (s := s) (m := m) (args := args) (below := below) (meth := meth) (c := c) (H := H) (locs := locs) (cells := 123) (slots := 3388) (g := F0 m pc ls (As.reverse ++ .ref (ad 0) :: rest)) (rest := rest) (Ts := gm_tbl) (own := R_law) (C := y.cls) ⟨hx, hb, hml, hown, hts⟩ hM (cwV n hts (gm_goodIn (fun w h => ?_)) rfl rfl rfl ⟨rfl, hy.1.2.2⟩ hR) ⟨gm_P_blind, va_recv hK hP K.2.1 he, hpre⟩ rfl hn hl.1 rfl (lv_room hro) hd ⟨Nat.le_of_ble_eq_true rfl, Nat.le_of_ble_eq_true rfl⟩
  · intro T0 hT X
    obtain ⟨v, st₀, t, T', Ls, h0, X', hL, e1, e2, ⟨hv, hP1, hD1, hz, hk⟩, go⟩ := run T0 hT X
    cases hv
    rw [h0] at hz hk
    rw [← e1] at hP1 hz hk
    obtain ⟨t2, a1, b1⟩ := kk T'.heap Ls hP1 hz hk hL T' rfl X'
    exact ⟨t2, go t2 a1, b1⟩
  · unfold wsV at h
    rcases List.mem_append.mp h with h | h
    · rcases List.mem_cons.mp h with h | h
      · rw [h]; exact hw
      rcases List.mem_cons.mp h with h | h
      · rw [h]; exact hy.2.1
      rcases List.mem_cons.mp h with h | h
      · rw [h]; exact hy.2.2
      rw [List.mem_singleton.mp h]; exact hy.1.2.1
    · rcases List.mem_cons.mp h with h | h
      · rw [h]; exact hy.1.1
      · exact h
theorem la_callC (F : gm_LF p s m args meth c cf adC adM b L xs) {x : Int32} (hM : gm_Met l y bb maxL rty fr lo cf adC gm_sC 106 (.ref (adC 0) :: As) C (some (.int x)) C1) (hy : gm_yv y bb maxL rty n) (hc : y.cls = RX10) (hw : Cond.methodLink R_law index y ∈ gm_tbl) (hn : As.length = n) (hR : fr + 1 ≤ 11 ∧ 8 + (maxL + 11) + lo ≤ 426) (hst : st = As.reverse ++ .ref (adC 0) :: rest) (hro : (rest.map fun v => v.category).sum ≤ 8) (hd : decode code pc = .ok (.invokevirtual index, 3))
    (kk : gm_L p l e s m args below meth c Q cf adC adM C1 M (pc + 3) lv (.int x :: rest)) : gm_L p l e s m args below meth c Q cf adC adM C M pc lv st := fun H locs ls hP hM2 hS hl => by
  subst hst
  have hap := F.2.2.2.2.2.2.2.2.2
  exact la_run F hap.2.2.1 hap.1 (by decide) hM rfl kc_10 hy hc hw hn hR hro hd hP hS hl (fun H1 Ls hP1 hz hk hL => kk H1 _ ls hP1 (la_kept hap.2.2.2.2 hM2 hk) (la_S hap.1 hS hz hk hL) hl)
theorem la_callM (F : gm_LF p s m args meth c cf adC adM b L xs) {x : Int32} (hM : gm_Met l y bb maxL rty fr lo cf adM gm_sM 17 (.ref (adM 0) :: As) M (some (.int x)) M1) (hy : gm_yv y bb maxL rty n) (hc : y.cls = RX11) (hw : Cond.methodLink R_law index y ∈ gm_tbl) (hn : As.length = n) (hR : fr + 1 ≤ 11 ∧ 8 + (maxL + 11) + lo ≤ 426) (hst : st = As.reverse ++ .ref (adM 0) :: rest) (hro : (rest.map fun v => v.category).sum ≤ 8) (hd : decode code pc = .ok (.invokevirtual index, 3))
    (kk : gm_L p l e s m args below meth c Q cf adC adM C M1 (pc + 3) lv (.int x :: rest)) : gm_L p l e s m args below meth c Q cf adC adM C M pc lv st := fun H locs ls hP hM2 hS hl => by
  subst hst
  have hap := F.2.2.2.2.2.2.2.2.2
  exact la_run F hap.2.2.2.1 hap.2.1 (by decide) hM rfl kc_11 hy hc hw hn hR hro hd hM2 hS hl (fun H1 Ls hP1 hz hk hL => kk H1 _ ls (la_kept (fun i j hi hj z => hap.2.2.2.2 j i hj hi z.symm) hP hk) hP1 (la_S hap.2.1 hS hz hk hL) hl)
end LA
