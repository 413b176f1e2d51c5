def gm_nst : List Cond := [.methodLinkNest RX10 9 yX5_init RX10, .methodLinkNest RX5 11 yX7_init RX10, .methodLinkNest RX5 20 yX9_init RX10, .methodLinkNest RX10 18 yX9_init RX10, .methodLinkNest RX10 25 yX3_init RX10, .methodLinkNest RX3 26 yX8_init RX10, .methodLinkNest RX4 17 yX9_init RX10, .methodLinkNest RX10 39 yX1_init RX10, .methodLinkNest RX1 19 yX8_init RX10, .methodLinkNest RX10 46 yX0_init RX10, .methodLinkNest RX10 61 yX2_init RX10, .methodLinkNest RX2 9 yX9_init RX10, .arrayOver (.array .long), .arrayOver (.object RX9), .arrayOver (.object RX2)]
def gm_mv (w : Cond) : Prop := ∀ s U : State, s.WarmedH U.vm → va_Nw w s → va_Nw w U
theorem gm_mv_m (a : String) (i : Nat) (y : MethodName) (h : String) : gm_mv (.methodLinkNest a i y h) := fun _ _ hW hZ => va_Nw.warmM hW hZ
theorem gm_mv_a (ty : FieldType) : gm_mv (.arrayOver ty) := fun s U hW hZ => by
  have h := (Cond.arrayOver_setVmC (args := #[]) hW.alike ty).trans hZ
  exact h
def gm_bl (w : Cond) : Prop := ∀ (U : State) (g : JFrame) (mk : MethodId) (a : Array Value), va_Nw w U → va_Nw w (U.calling g mk a)
theorem gm_bl_m (a : String) (i : Nat) (y : MethodName) (h : String) : gm_bl (.methodLinkNest a i y h) := fun U g mk a hZ => va_tabs (u := U) (A := #[]) rfl rfl hZ
theorem gm_bl_a (ty : FieldType) : gm_bl (.arrayOver ty) := fun U g mk a hZ => hZ
theorem gm_nst_bl : ∀ w ∈ gm_nst, gm_bl w := by
  unfold gm_nst
  repeat (first | exact fun _ h => absurd h List.not_mem_nil | (refine List.forall_mem_cons.mpr ⟨by first | exact gm_bl_m _ _ _ _ | exact gm_bl_a _, ?_⟩))
theorem gm_nst_mv : ∀ w ∈ gm_nst, gm_mv w := by
  unfold gm_nst
  repeat (first | exact fun _ h => absurd h List.not_mem_nil | (refine List.forall_mem_cons.mpr ⟨by first | exact gm_mv_m _ _ _ _ | exact gm_mv_a _, ?_⟩))
def gm_nw (U : State) : Prop := ∀ w ∈ gm_nst, va_Nw w U
theorem gm_nw_mv {s U : State} (hW : s.WarmedH U.vm) (h : gm_nw s) : gm_nw U := fun w hw => gm_nst_mv w hw s U hW (h w hw)
def gm_Ini (l : Launch) (y : MethodName) (b : ByteArray) (maxL fr lo mc ms : Nat) (cf : gm_C) (ci : Nat) (fs0 : List Value) (sh : Nat → va_W → Prop) : Prop := ∀ h0 sz : Nat,
  Met l y (.code y b maxL none :: gm_tbl) { frames := fr, cells := mc, slots := ms, locals := lo } (va_Pc [.ref h0] (fun U => U.heap.size = sz ∧ va_P cf.1 gm_cls [(h0, .inr (ci, fs0))] U.heap ∧ va_K cf.1 gm_cls (gm_tys cf) U ∧ va_D (fun _ => True) [(h0, .inr (ci, fs0))] ∧ gm_nw U))
    (va_Qv (fun w : va_W => sh h0 w) (fun w t => va_P cf.1 gm_cls w t.heap ∧ va_D (va_A [(h0, .inr (ci, fs0))] sz) w) (va_A [(h0, .inr (ci, fs0))] sz)) mc ms (va_A [(h0, .inr (ci, fs0))] sz)
def gm_IF (p : Program) (s : State) (m : MethodId) (args : Array Value) (meth : Method) (c : Code) (cf : gm_C) (A : Nat → Prop) (cc : ByteArray) (nL : Nat) (own : String) : Prop :=
  p.tables.exec = Jvm.exec ∧ c.code = cc ∧ c.maxLocals = nL ∧ s.vm.findClass own = some m.cls ∧ (∀ w ∈ gm_tbl, w.before args s = true) ∧ va_K cf.1 gm_cls (gm_tys cf) s ∧ meth.locks = false ∧ meth.name = "<init>" ∧ gm_nw s ∧ (∀ q : Nat, s.heap.size ≤ q → A q)
def gm_I (p : Program) (l : Launch) (e : Env) (R : Room) (s : State) (m : MethodId) (args : Array Value) (below : List Frame) (meth : Method) (c : Code) (Q : State → Prop) (cf : gm_C) (A : Nat → Prop) (nL : Nat) (ws : va_W) (cells slots pc : Nat) (lv : List (Nat × Value)) (st : List Value) : Prop :=
  ∀ (H : Heap) (locs : List Loc) (ls : Array Slot), va_P cf.1 gm_cls ws H → va_D A ws → va_S A s.heap H locs → lv_has ls nL lv → W p l e R s m args below meth c H locs cells slots Q (F0 m pc ls st)
theorem gm_ini {l : Launch} {y : MethodName} {b : ByteArray} {maxL fr lo mc ms : Nat} {cf : gm_C} {ci : Nat} {fs0 : List Value} {sh : Nat → va_W → Prop} (hy : plainName y.cls = true) (hyn : y.name = "<init>") (hsz : 1 ≤ maxL)
    (body : ∀ (p : Program) (e : Env) (s : State) (m : MethodId) (args : Array Value) (below : List Frame) (meth : Method) (c : Code) (A : Nat → Prop) (h0 : Nat), gm_IF p s m args meth c cf A b maxL y.cls → meth.sig.returnType = none → gm_I p l e { frames := fr, cells := mc, slots := ms, locals := lo } s m args below meth c (MQ below (va_Qv (fun w : va_W => sh h0 w) (fun w t => va_P cf.1 gm_cls w t.heap ∧ va_D A w) A) args s mc ms A) cf A maxL [(h0, .inr (ci, fs0))] 0 0 0 [(0, .ref h0)] []) : gm_Ini l y b maxL fr lo mc ms cf ci fs0 sh := by
  intro h0 sz
  refine Met.ofW (cc := b) (maxL := maxL) (ret := none) hy rfl ?_
  intro p e s m args below meth c s₁ B hml hv
  obtain ⟨rfl, hsz0, hP, hK, hD0, hN⟩ := hv
  have hts := atoms_spec (ws := .code y b maxL none :: gm_tbl) B.pre
  have hown : s.vm.findClass y.cls = some m.cls := findClass_of_methodNamed B.named
  have hin : meth.name = "<init>" := by rw [(name_of_methodNamed B.named B.method).1]; exact hyn
  subst hsz0
  have hD := hD0.self (sz := s.heap.size)
  have hl := lv_entry ([.ref h0]) (n := maxL) hsz
  rw [lg_entry_eq]
  have hb := body p e s m [.ref h0].toArray below meth c (va_A [(h0, .inr (ci, fs0))] s.heap.size) h0 ⟨B.exec, B.bytes, hml, hown, fun w h => hts w (List.mem_cons_of_mem _ h), hK, B.notSynchronized, hin, hN, fun q h => Or.inr h⟩ B.returns
  exact hb s.heap [] _ hP hD va_S.rf hl
section GI
variable {p : Program} {l : Launch} {e : Env} {R : Room} {s : State} {m : MethodId} {args : Array Value} {below : List Frame} {meth : Method} {c : Code} {Q : State → Prop} {cf : gm_C} {A : Nat → Prop} {nL : Nat} {ws : va_W} {cells slots pc : Nat} {lv : List (Nat × Value)} {st : List Value} {cc : ByteArray} {own : String}
theorem ci_aload (C : gm_IF p s m args meth c cf A cc nL own) {k : Fin 4} {i x : Nat} (hd : decode cc pc = .ok (.aload_n k, 1)) (hi : (k : Nat) = i) (j : Nat) (hj : lv[j]? = some (i, .ref x)) (kk : gm_I p l e R s m args below meth c Q cf A nL ws cells slots (pc + 1) lv (.ref x :: st)) : gm_I p l e R s m args below meth c Q cf A nL ws cells slots pc lv st := fun H locs ls hP hD hS hl => lv_aload_n C.1 C.2.1 hd hi (lv_at hl j hj) (kk H locs ls hP hD hS hl)
theorem ci_iload (C : gm_IF p s m args meth c cf A cc nL own) {k : Fin 4} {i : Nat} {x : Int32} (hd : decode cc pc = .ok (.iload_n k, 1)) (hi : (k : Nat) = i) (j : Nat) (hj : lv[j]? = some (i, .int x)) (kk : gm_I p l e R s m args below meth c Q cf A nL ws cells slots (pc + 1) lv (.int x :: st)) : gm_I p l e R s m args below meth c Q cf A nL ws cells slots pc lv st := fun H locs ls hP hD hS hl => lv_iload_n C.1 C.2.1 hd hi (lv_at hl j hj) (kk H locs ls hP hD hS hl)
theorem ci_iconst (C : gm_IF p s m args meth c cf A cc nL own) {n : Int} {v : Int32} (hd : decode cc pc = .ok (.iconst n, 1)) (hv : Int32.ofInt n = v) (kk : gm_I p l e R s m args below meth c Q cf A nL ws cells slots (pc + 1) lv (.int v :: st)) : gm_I p l e R s m args below meth c Q cf A nL ws cells slots pc lv st := fun H locs ls hP hD hS hl => lv_iconst C.1 C.2.1 hd hv (kk H locs ls hP hD hS hl)
theorem ci_bipush (C : gm_IF p s m args meth c cf A cc nL own) {n : Int} {v : Int32} (hd : decode cc pc = .ok (.bipush n, 2)) (hv : (Int8.ofInt n).toInt32 = v) (kk : gm_I p l e R s m args below meth c Q cf A nL ws cells slots (pc + 2) lv (.int v :: st)) : gm_I p l e R s m args below meth c Q cf A nL ws cells slots pc lv st := fun H locs ls hP hD hS hl => lv_bipush C.1 C.2.1 hd hv (kk H locs ls hP hD hS hl)
theorem ci_sipush (C : gm_IF p s m args meth c cf A cc nL own) {n : Int} {v : Int32} (hd : decode cc pc = .ok (.sipush n, 3)) (hv : (Int16.ofInt n).toInt32 = v) (kk : gm_I p l e R s m args below meth c Q cf A nL ws cells slots (pc + 3) lv (.int v :: st)) : gm_I p l e R s m args below meth c Q cf A nL ws cells slots pc lv st := fun H locs ls hP hD hS hl => lv_sipush C.1 C.2.1 hd hv (kk H locs ls hP hD hS hl)
theorem ci_istore (C : gm_IF p s m args meth c cf A cc nL own) {k : Fin 4} {i : Nat} {x : Int32} {lv' : List (Nat × Value)} (hd : decode cc pc = .ok (.istore_n k, 1)) (hi : (k : Nat) = i) (hn : i < nL) (hl' : (i, Value.int x) :: lv.filter (fun q => !(q.1 == i) && !(q.1 + 1 == i && q.2.category == 2)) = lv') (kk : gm_I p l e R s m args below meth c Q cf A nL ws cells slots (pc + 1) lv' st) : gm_I p l e R s m args below meth c Q cf A nL ws cells slots pc lv (.int x :: st) := fun H locs ls hP hD hS hl => lv_istore_n C.1 C.2.1 hd hi hl hn hl' (fun ls' hls => kk H locs ls' hP hD hS hls)
theorem ci_iinc (C : gm_IF p s m args meth c cf A cc nL own) {i j : Nat} {n : Int} {x v : Int32} {lv' : List (Nat × Value)} (hd : decode cc pc = .ok (.iinc i n, 3)) (hj : lv[j]? = some (i, .int x)) (hv : v = x + Int32.ofInt n) (hn : i < nL) (hl' : (i, Value.int v) :: lv.filter (fun q => !(q.1 == i) && !(q.1 + 1 == i && q.2.category == 2)) = lv') (kk : gm_I p l e R s m args below meth c Q cf A nL ws cells slots (pc + 3) lv' st) : gm_I p l e R s m args below meth c Q cf A nL ws cells slots pc lv st := fun H locs ls hP hD hS hl => lv_iinc C.1 C.2.1 hd hl hj hv.symm hn hl' (fun ls' hls => kk H locs ls' hP hD hS hls)
theorem ci_icmp_ge (C : gm_IF p s m args meth c cf A cc nL own) {x y : Int32} {off : Int} (tgt : Nat) (hd : decode cc pc = .ok (.if_icmp .ge off, 3)) (ht : (pc : Int) + off = (tgt : Int)) (kt : y ≤ x → gm_I p l e R s m args below meth c Q cf A nL ws cells slots tgt lv st) (kf : ¬ y ≤ x → gm_I p l e R s m args below meth c Q cf A nL ws cells slots (pc + 3) lv st) : gm_I p l e R s m args below meth c Q cf A nL ws cells slots pc lv (.int y :: .int x :: st) := fun H locs ls hP hD hS hl => lv_icmp_ge C.1 C.2.1 hd ht (fun h => kt h H locs ls hP hD hS hl) (fun h => kf h H locs ls hP hD hS hl)
theorem ci_goto (C : gm_IF p s m args meth c cf A cc nL own) {off : Int} (tgt : Nat) (hd : decode cc pc = .ok (.goto off, 3)) (ht : (pc : Int) + off = (tgt : Int)) (kk : gm_I p l e R s m args below meth c Q cf A nL ws cells slots tgt lv st) : gm_I p l e R s m args below meth c Q cf A nL ws cells slots pc lv st := fun H locs ls hP hD hS hl => lv_goto C.1 C.2.1 hd ht (kk H locs ls hP hD hS hl)
theorem ci_obj (C : gm_IF p s m args meth c cf A cc nL own) {idx x : Nat} (hw : Cond.methodLink own idx objectInit ∈ gm_tbl) (hw2 : Cond.instanceMethod objectInit ∈ gm_tbl) (hw3 : Cond.code objectInit ⟨#[0xb1]⟩ 1 none ∈ gm_tbl) (hd : decode cc pc = .ok (.invokespecial idx, 3)) (hfr : 1 ≤ R.frames) (hlo : 12 ≤ R.locals) (kk : gm_I p l e R s m args below meth c Q cf A nL ws cells slots (pc + 3) lv []) : gm_I p l e R s m args below meth c Q cf A nL ws cells slots pc lv [.ref x] := fun H locs ls hP hD hS hl => by
  refine W.objInit C.1 C.2.1 C.2.2.2.1 (C.2.2.2.2.1 _ hw) (C.2.2.2.2.1 _ hw2) (C.2.2.2.2.1 _ hw3) rfl (by rw [C.2.2.1]; exact hl.1) rfl hd hfr (by simpa [F0] using hlo) ?_
  exact kk H locs ls hP hD hS hl
theorem gm_tys_at {cf : gm_C} {j : Nat} {ty : FieldType} (h : (gm_tys cf)[j]? = some (cf.2 j, ty)) (hK : va_K cf.1 gm_cls (gm_tys cf) s) {cA : ClassId} (hK2 : va_K cf.1 gm_cls (gm_tys cf ++ [(cA, ty)]) s) : cA = cf.2 j := by
  have h1 := (hK.2 j _ h).2
  have h2 := (hK2.2 7 (cA, ty) (by rw [List.getElem?_append_right (by simp [gm_tys])]; rfl)).2
  cases ty with
  | object C =>
    obtain ⟨_, _, _, _, _, g1⟩ := h1
    obtain ⟨_, _, _, _, _, g2⟩ := h2
    exact Option.some.inj (g2.symm.trans g1)
  | _ => exact Option.some.inj (Eq.trans (Eq.symm h2) h1)
theorem ci_newa (C : gm_IF p s m args meth c cf A cc nL own) {atype : ArrayType} {ty : FieldType} {n : Int32} {N' j : Nat} {a0 : vp_A} (hw : Cond.arrayClass (newarray.typeOf atype) ∈ gm_tbl) (hty : newarray.typeOf atype = ty) (htj : (gm_tys cf)[j]? = some (cf.2 j, ty)) (ha : ∀ cA : ClassId, vp_cell cA a0 = arrV cA N' (fun _ => defaultValue ty)) (hn : ¬ n < 0) (hN : n.toNatClampNeg = N') (hbytes : N' * componentBytes ty ≤ 536870912) (hcells : cells + 1 ≤ R.cells) (hslots : slots + N' ≤ R.slots) (hd : decode cc pc = .ok (.newarray atype, 2))
    (kk : ∀ q : Nat, gm_I p l e R s m args below meth c Q cf A nL (ws ++ [(q, .inl (cf.2 j, a0))]) (cells + 1) (slots + N') (pc + 2) lv (.ref q :: st)) : gm_I p l e R s m args below meth c Q cf A nL ws cells slots pc lv (.int n :: st) := fun H locs ls hP hD hS hl => by
  refine va_newa C.1 C.2.1 (C.2.2.2.2.1 _ hw) hty C.2.2.2.2.2.1 hP hD hS C.2.2.2.2.2.2.2.2.2 ha hn hN hbytes hcells hslots hd (fun q cA H1 hK1 hP1 hD1 hS1 => ?_)
  have e := gm_tys_at htj C.2.2.2.2.2.1 hK1
  subst e
  exact kk q H1 locs ls hP1 hD1 hS1 hl
theorem ci_newq (C : gm_IF p s m args meth c cf A cc nL own) {Cn : String} {index : Nat} {n : Int32} {N' j : Nat} (hcl : Cond.classLink own index Cn ∈ gm_tbl) (hov : Cond.arrayOver (.object Cn) ∈ gm_nst) (htj : (gm_tys cf)[j]? = some (cf.2 j, .object Cn)) (hn : ¬ n < 0) (hN : n.toNatClampNeg = N') (hbytes : N' * 4 ≤ 536870912) (hcells : cells + 1 ≤ R.cells) (hslots : slots + N' ≤ R.slots) (hd : decode cc pc = .ok (.anewarray index, 3))
    (kk : ∀ q : Nat, gm_I p l e R s m args below meth c Q cf A nL (ws ++ [(q, .inl (cf.2 j, N', .inr (.inr (.inr (.inr (fun _ => none))))))]) (cells + 1) (slots + N') (pc + 3) lv (.ref q :: st)) : gm_I p l e R s m args below meth c Q cf A nL ws cells slots pc lv (.int n :: st) := fun H locs ls hP hD hS hl => by
  refine va_newq C.1 C.2.1 C.2.2.2.1 (C.2.2.2.2.1 _ hcl) (C.2.2.2.2.2.2.2.2.1 _ hov) C.2.2.2.2.2.1 hP hD hS C.2.2.2.2.2.2.2.2.2 hn hN hbytes hcells hslots hd (fun q cA H1 hK1 hP1 hD1 hS1 => ?_)
  have e := gm_tys_at htj C.2.2.2.2.2.1 hK1
  subst e
  exact kk q H1 locs ls hP1 hD1 hS1 hl
theorem ci_putF (C : gm_IF p s m args meth c cf A cc nL own) {v : Value} {h0 ci n k : Nat} {fs : List Value} {rs : va_W} {Cn : String} {T : u_T} {ty : Nat → FieldType} {index : Nat} (K : gm_kc ci Cn T n ty) (hkn : k < n) (hr : (T k).1 = Cn) (ho : Cn = own) (hfin : (T k).2.2.2 = true) {ty1 : FieldType} (hp : parseFieldDescriptor (T k).2.2.1 = some ty1) (hn : narrow ty1 v = v) (hfit : fits ty1 v = true) (hl : k < fs.length) (hw : Cond.fieldLink own index Cn (T k).2.1 (T k).2.2.1 ∈ gm_tbl) (hd : decode cc pc = .ok (.putfield index, 3))
    (kk : gm_I p l e R s m args below meth c Q cf A nL ((h0, .inr (ci, fs.set k v)) :: rs) cells slots (pc + 3) lv st) : gm_I p l e R s m args below meth c Q cf A nL ((h0, .inr (ci, fs)) :: rs) cells slots pc lv (v :: .ref h0 :: st) := fun H locs ls hP hD hS hl2 => by
  refine va_putF C.1 C.2.1 C.2.2.2.2.1 K.2.2.1 ty K.2.2.2.1 K.2.2.2.2 C.2.2.2.1 C.2.2.2.2.2.1 hP hD hS 0 rfl K.2.1 k hkn (C.2.2.2.2.1 _ hw) (fun x h => by rw [← hr]; exact h) hfin C.2.2.2.2.2.2.2.1 (hr.trans ho) hp hn hfit hl hd (fun H1 locs1 hP1 hD1 hS1 => ?_)
  exact kk H1 locs1 ls hP1 hD1 hS1 hl2
theorem ci_put (C : gm_IF p s m args meth c cf A cc nL own) {v : Value} {h0 ci n k : Nat} {fs : List Value} {rs : va_W} {Cn : String} {T : u_T} {ty : Nat → FieldType} {index : Nat} (K : gm_kc ci Cn T n ty) (hkn : k < n) (hr : (T k).1 = Cn) (hfin : (T k).2.2.2 = false) {ty1 : FieldType} (hp : parseFieldDescriptor (T k).2.2.1 = some ty1) (hn : narrow ty1 v = v) (hfit : fits ty1 v = true) (hl : k < fs.length) (hw : Cond.fieldLink own index Cn (T k).2.1 (T k).2.2.1 ∈ gm_tbl) (hd : decode cc pc = .ok (.putfield index, 3))
    (kk : gm_I p l e R s m args below meth c Q cf A nL ((h0, .inr (ci, fs.set k v)) :: rs) cells slots (pc + 3) lv st) : gm_I p l e R s m args below meth c Q cf A nL ((h0, .inr (ci, fs)) :: rs) cells slots pc lv (v :: .ref h0 :: st) := fun H locs ls hP hD hS hl2 => by
  refine va_put C.1 C.2.1 C.2.2.2.2.1 K.2.2.1 ty K.2.2.2.1 K.2.2.2.2 C.2.2.2.1 C.2.2.2.2.2.1 hP hD hS 0 rfl K.2.1 k hkn (C.2.2.2.2.1 _ hw) (fun x h => by rw [← hr]; exact h) hfin hp hn hfit hl hd (fun H1 locs1 hP1 hD1 hS1 => ?_)
  exact kk H1 locs1 ls hP1 hD1 hS1 hl2
theorem ci_ret {mc ms : Nat} {B : va_W → State → Prop} {post : va_W → Prop} (C : gm_IF p s m args meth c cf A cc nL own) (hr : meth.sig.returnType = none) (hd : decode cc pc = .ok (.return_, 1)) (hB : ∀ t : State, va_P cf.1 gm_cls ws t.heap → va_D A ws → B ws t) (hp : post ws) : gm_I p l e R s m args below meth c (MQ below (va_Qv post B A) args s mc ms A) cf A nL ws mc ms pc lv [] := fun H locs ls hP hD hS hl => by
  exact W.vret C.1 C.2.1 hr (fun t ht hW => ⟨⟨ws, rfl, hp, hB t (by rw [ht]; exact hP) hD⟩, hS.F ht⟩) hS.2.2 hd C.2.2.2.2.2.2.1
theorem ci_widen {k n : Nat} (h1 : cells ≤ k) (h2 : slots ≤ n) (kk : gm_I p l e R s m args below meth c Q cf A nL ws k n pc lv st) : gm_I p l e R s m args below meth c Q cf A nL ws cells slots pc lv st := fun H locs ls hP hD hS hl => W.widen (k := k) (n := n) h1 h2 (kk H locs ls hP hD hS hl)
theorem gm_nd : ∀ l : List Nat, l.Nodup → va_nd l = true
  | [], _ => rfl
  | a :: l, h => by
    have h1 := List.nodup_cons.mp h
    simp only [va_nd, Bool.and_eq_true, decide_eq_true_eq]
    exact ⟨h1.1, gm_nd l h1.2⟩
theorem gm_rng (ws : va_W) (x : Nat × va_E) : (List.range ws.length).map (fun i => (ws ++ [x])[i]?) = ws.map some := by
  apply List.ext_getElem?
  intro i
  rw [List.getElem?_map, List.getElem?_map]
  by_cases h : i < ws.length
  · rw [List.getElem?_range h, Option.map_some, List.getElem?_append_left h, List.getElem?_eq_getElem h]
    rfl
  · rw [List.getElem?_eq_none (by rw [List.length_range]; omega), List.getElem?_eq_none (by omega)]
    rfl
def gm_yi (y : MethodName) (b : ByteArray) (maxL : Nat) : Prop := Cond.code y b maxL none ∈ gm_tbl ∧ Cond.initialized y.cls ∈ gm_tbl ∧ Cond.instanceMethod y ∈ gm_tbl ∧ y.name = "<init>" ∧ y.cls ≠ "java/lang/invoke/MethodHandle" ∧ y.cls ≠ "java/lang/invoke/VarHandle" ∧ (parseMethodDescriptor y.desc).map (fun d => d.parameters.length) = some 0
theorem ci_mk (C : gm_IF p s m args meth c cf A cc nL own) {y : MethodName} {b : ByteArray} {maxL fr lo mc ms cj nf i1 i2 : Nat} {Cn : String} {T : u_T} {ty : Nat → FieldType} {fs0 : List Value} {sh : Nat → va_W → Prop} (hM : gm_Ini l y b maxL fr lo mc ms cf cj fs0 sh) (K : gm_kc cj Cn T nf ty) (hy : gm_yi y b maxL) (hcl : Cond.classLink own i1 Cn ∈ gm_tbl) (hinst : Cond.instantiable Cn nf ∈ gm_tbl) (hini : Cond.initialized Cn ∈ gm_tbl) (hfs : ∀ j, j < nf → defaultValue (ty j) = vp_V fs0 j)
    (hlk : Cond.methodLinkNest own i2 y RX10 ∈ gm_nst ∨ Cond.methodLink own i2 y ∈ gm_tbl) (hR : fr + 1 ≤ R.frames ∧ 8 + (maxL + 11) + lo ≤ R.locals) (hc : cells + 1 + mc ≤ R.cells) (hsl : slots + nf + ms ≤ R.slots) (hst : (st.map fun v => v.category).sum ≤ 7) (hd1 : decode cc pc = .ok (.new i1, 3)) (hd2 : decode cc (pc + 3) = .ok (.dup, 1)) (hd3 : decode cc (pc + 4) = .ok (.invokespecial i2, 3))
    (kk : ∀ (q : Nat) (w1 : va_W), sh q w1 → gm_I p l e R s m args below meth c Q cf A nL (ws ++ w1) (cells + 1 + mc) (slots + nf + ms) (pc + 7) lv (.ref q :: st)) : gm_I p l e R s m args below meth c Q cf A nL ws cells slots pc lv st := fun H locs ls hP hD hS hl => by
  obtain ⟨hx, hb, hml, hown, hts, hK, hlocks, hin, hnw, hA⟩ := id C
  refine va_new (ci := cj) (fs := fs0) hx hb hts K.2.2.1 ty K.2.2.2.1 hown (hts _ hcl) (hts _ hinst) (hts _ hini) hK hP hD hS hA K.2.1 hfs (by omega) (by omega) hd1 (fun q H1 hP1 hD1 hS1 => ?_)
  refine lv_dup hx hb hd2 rfl ?_
  have hPc := hP1.sub (ws' := [(q, .inr (cj, fs0))]) [ws.length] (by simp)
  have hDc := hD1.sub (ws' := [(q, .inr (cj, fs0))]) [ws.length] (by simp [va_nd]) (by simp)
  have hFc := va_free (wc := [(q, .inr (cj, fs0))]) hD1 hS1 hA [ws.length] (by simp)
  have hG : GoodIn gm_tbl (Cond.code y b maxL none :: gm_tbl) := gm_goodIn (fun w hw => by
    rcases List.mem_cons.mp hw with h | h
    · rw [h]; exact hy.1
    · exact h)
  have hpre : PreS s H1 (va_Pc [.ref q] (fun U => U.heap.size = H1.size ∧ va_P cf.1 gm_cls [(q, .inr (cj, fs0))] U.heap ∧ va_K cf.1 gm_cls (gm_tys cf) U ∧ va_D (fun _ => True) [(q, .inr (cj, fs0))] ∧ gm_nw U)) [.ref q] := ⟨fun a U g mk z => by
      obtain ⟨z0, z1, zP, zK, zD, zN⟩ := z
      exact ⟨z0, z1, zP, va_K.moved (u := U) (U := U.calling g mk a) (Vm.Alike.refl U.vm) zK, zD, fun w hw => gm_nst_bl w hw U g mk a (zN w hw)⟩, fun U hU hW => ⟨rfl, by rw [hU], by rw [hU]; exact hPc, va_K.moved hW.alike hK, hDc.weaken (fun _ _ _ _ => trivial), gm_nw_mv hW hnw⟩⟩
  have hro : 2 * (F0 m (pc + 3 + 1) ls (.ref q :: .ref q :: st)).monitorRoom + ((Value.ref q :: st).map fun v => v.category).sum ≤ 8 := by
    have : 2 * (F0 m (pc + 3 + 1) ls (.ref q :: .ref q :: st)).monitorRoom = 0 := rfl
    simp only [List.map_cons, List.sum_cons]
    have h1 : (Value.ref q).category = 1 := rfl
    omega
  have go : ∀ run : va_Run p l e R s m args below meth c H1 locs (cells + 1) (slots + nf) mc ms (F0 m (pc + 3 + 1) ls (.ref q :: .ref q :: st)) (.ref q :: st) (va_Qv (fun w : va_W => sh q w) (fun w t => va_P cf.1 gm_cls w t.heap ∧ va_D (va_A [(q, .inr (cj, fs0))] H1.size) w) (va_A [(q, .inr (cj, fs0))] H1.size) (Value.ref q :: []).toArray) (va_A [(q, .inr (cj, fs0))] H1.size), W p l e R s m args below meth c H1 locs (cells + 1) (slots + nf) Q (F0 m (pc + 3 + 1) ls (.ref q :: .ref q :: st)) := fun run => by
    refine va_callv run hS1 (fun q _ h => hFc q h) hFc (fun u t H2 locs2 ht hvm hsh hB hz1 hk1 hS2 => ?_)
    obtain ⟨hP2, hD2⟩ := hB
    rw [ht] at hP2
    obtain ⟨hP3, hD3⟩ := va_join (wr := ws) (w1 := u) hP1 hD1 [ws.length] (List.range ws.length) (by simp) (gm_rng ws _) (gm_nd _ List.nodup_range) (fun i hi => by simp at hi ⊢; omega) hk1 hFc hP2 hD2
    exact kk q u hsh H2 locs2 ls hP3 hD3 hS2 hl
  rcases hlk with hlk | hlk
  · exact go (va_runIN (As := []) (rest := .ref q :: st) ⟨hx, hb, hml, hown, hts⟩ (hM q H1.size) ⟨va_cnB 0 hts hG rfl rfl rfl (hnw _ hlk) (hts _ hy.2.1) ⟨hy.2.2.2.2.1, hy.2.2.2.2.2.1, hy.2.2.2.2.2.2⟩ hR, hy.2.2.2.1, hts _ hy.2.2.1⟩ hpre rfl rfl hl.1 rfl hro hd3 ⟨hc, hsl⟩)
  · exact go (va_runI (As := []) (rest := .ref q :: st) ⟨hx, hb, hml, hown, hts⟩ (hM q H1.size) (cwI 0 hts hG rfl rfl rfl (hts _ hy.2.1) (hts _ hlk) (hts _ hy.2.2.1) hy.2.2.2.1 ⟨hy.2.2.2.2.1, hy.2.2.2.2.2.1, hy.2.2.2.2.2.2⟩ hR) hpre rfl rfl hl.1 rfl hro hd3 ⟨hc, hsl⟩)
end GI
