theorem lb_cl10 : Cond.classLink R_law 7 RX10 ∈ gm_tbl := gm_in_tbl 68 (by decide +kernel) (by decide +kernel)
theorem lb_n10 : Cond.instantiable RX10 9 ∈ gm_tbl := gm_in_tbl 69 (by decide +kernel) (by decide +kernel)
theorem lb_m10 : Cond.methodLink R_law 9 yX10_init ∈ gm_tbl := gm_in_tbl 70 (by decide +kernel) (by decide +kernel)
theorem lb_i10 : Cond.initialized RX10 ∈ gm_tbl := gm_in_tbl 53 (by decide +kernel) (by decide +kernel)
theorem lb_cl11 : Cond.classLink R_law 10 RX11 ∈ gm_tbl := gm_in_tbl 834 (by decide +kernel) (by decide +kernel)
theorem lb_n11 : Cond.instantiable RX11 37 ∈ gm_tbl := gm_in_tbl 835 (by decide +kernel) (by decide +kernel)
theorem lb_m11 : Cond.methodLink R_law 12 yX11_init ∈ gm_tbl := gm_in_tbl 836 (by decide +kernel) (by decide +kernel)
theorem lb_i11 : Cond.initialized RX11 ∈ gm_tbl := gm_in_tbl 63 (by decide +kernel) (by decide +kernel)
theorem lb_y10 : gm_yi yX10_init cX10_init 2 := ⟨gm_in_tbl 72 (by decide +kernel) (by decide +kernel), lb_i10, gm_in_tbl 71 (by decide +kernel) (by decide +kernel), rfl, by decide, by decide, by decide +kernel⟩
theorem lb_y11 : gm_yi yX11_init cX11_init 1 := ⟨gm_in_tbl 838 (by decide +kernel) (by decide +kernel), lb_i11, gm_in_tbl 837 (by decide +kernel) (by decide +kernel), rfl, by decide, by decide, by decide +kernel⟩
theorem lb_f10 : ∀ j, j < 9 → defaultValue (tyX10 j) = vp_V fi_10 j := fun j hj => by rcases (show j = 0 ∨ j = 1 ∨ j = 2 ∨ j = 3 ∨ j = 4 ∨ j = 5 ∨ j = 6 ∨ j = 7 ∨ j = 8 by omega) with rfl | rfl | rfl | rfl | rfl | rfl | rfl | rfl | rfl <;> rfl
theorem lb_f11 : ∀ j, j < 37 → defaultValue (tyX11 j) = vp_V fi_11 j := fun j hj => by rcases (show j = 0 ∨ j = 1 ∨ j = 2 ∨ j = 3 ∨ j = 4 ∨ j = 5 ∨ j = 6 ∨ j = 7 ∨ j = 8 ∨ j = 9 ∨ j = 10 ∨ j = 11 ∨ j = 12 ∨ j = 13 ∨ j = 14 ∨ j = 15 ∨ j = 16 ∨ j = 17 ∨ j = 18 ∨ j = 19 ∨ j = 20 ∨ j = 21 ∨ j = 22 ∨ j = 23 ∨ j = 24 ∨ j = 25 ∨ j = 26 ∨ j = 27 ∨ j = 28 ∨ j = 29 ∨ j = 30 ∨ j = 31 ∨ j = 32 ∨ j = 33 ∨ j = 34 ∨ j = 35 ∨ j = 36 by omega) with rfl | rfl | rfl | rfl | rfl | rfl | rfl | rfl | rfl | rfl | rfl | rfl | rfl | rfl | rfl | rfl | rfl | rfl | rfl | rfl | rfl | rfl | rfl | rfl | rfl | rfl | rfl | rfl | rfl | rfl | rfl | rfl | rfl | rfl | rfl | rfl | rfl <;> rfl
def lb_F (p : Program) (s : State) (m : MethodId) (args : Array Value) (c : Code) (cf : gm_C) (A : Nat → Prop) (cc : ByteArray) (nL : Nat) (own : String) : Prop :=
  p.tables.exec = Jvm.exec ∧ c.code = cc ∧ c.maxLocals = nL ∧ s.vm.findClass own = some m.cls ∧ (∀ w ∈ gm_tbl, w.before args s = true) ∧ va_K cf.1 gm_cls (gm_tys cf) s ∧ gm_nw s ∧ (∀ q : Nat, s.heap.size ≤ q → A q)
section LB
variable {p : Program} {l : Launch} {e : Env} {R : Room} {s : State} {m : MethodId} {args : Array Value} {below : List Frame} {meth : Method} {c : Code} {Q : State → Prop} {cf : gm_C} {A : Nat → Prop} {nL : Nat} {ws : va_W} {cells slots pc : Nat} {lv : List (Nat × Value)} {st : List Value} {cc : ByteArray} {own : String}
theorem lb_mk (C : lb_F p s m args c cf A cc nL own) {y : MethodName} {b : ByteArray} {maxL fr lo mc ms cj nf i1 i2 : Nat} {Cn : String} {T : u_T} {ty : Nat → FieldType} {fs0 : List Value} {sh : Nat → va_W → Prop} (hM : gm_Ini l y b maxL fr lo mc ms cf cj fs0 sh) (K : gm_kc cj Cn T nf ty) (hy : gm_yi y b maxL) (hcl : Cond.classLink own i1 Cn ∈ gm_tbl) (hinst : Cond.instantiable Cn nf ∈ gm_tbl) (hini : Cond.initialized Cn ∈ gm_tbl) (hfs : ∀ j, j < nf → defaultValue (ty j) = vp_V fs0 j)
    (hlk : Cond.methodLinkNest own i2 y RX10 ∈ gm_nst ∨ Cond.methodLink own i2 y ∈ gm_tbl) (hR : fr + 1 ≤ R.frames ∧ 8 + (maxL + 11) + lo ≤ R.locals) (hc : cells + 1 + mc ≤ R.cells) (hsl : slots + nf + ms ≤ R.slots) (hst : (st.map fun v => v.category).sum ≤ 7) (hd1 : decode cc pc = .ok (.new i1, 3)) (hd2 : decode cc (pc + 3) = .ok (.dup, 1)) (hd3 : decode cc (pc + 4) = .ok (.invokespecial i2, 3))
    (kk : ∀ (q : Nat) (w1 : va_W), sh q w1 → gm_I p l e R s m args below meth c Q cf A nL (ws ++ w1) (cells + 1 + mc) (slots + nf + ms) (pc + 7) lv (.ref q :: st)) : gm_I p l e R s m args below meth c Q cf A nL ws cells slots pc lv st := fun H locs ls hP hD hS hl => by
  obtain ⟨hx, hb, hml, hown, hts, hK, hnw, hA⟩ := id C
  refine va_new (ci := cj) (fs := fs0) hx hb hts K.2.2.1 ty K.2.2.2.1 hown (hts _ hcl) (hts _ hinst) (hts _ hini) hK hP hD hS hA K.2.1 hfs (by omega) (by omega) hd1 (fun q H1 hP1 hD1 hS1 => ?_)
  refine lv_dup hx hb hd2 rfl ?_
  have hPc := hP1.sub (ws' := [(q, .inr (cj, fs0))]) [ws.length] (by simp)
  have hDc := hD1.sub (ws' := [(q, .inr (cj, fs0))]) [ws.length] (by simp [va_nd]) (by simp)
  have hFc := va_free (wc := [(q, .inr (cj, fs0))]) hD1 hS1 hA [ws.length] (by simp)
  have hG : GoodIn gm_tbl (Cond.code y b maxL none :: gm_tbl) := gm_goodIn (fun w hw => by
    rcases List.mem_cons.mp hw with h | h
    · rw [h]; exact hy.1
    · exact h)
  have hpre : PreS s H1 (va_Pc [.ref q] (fun U => U.heap.size = H1.size ∧ va_P cf.1 gm_cls [(q, .inr (cj, fs0))] U.heap ∧ va_K cf.1 gm_cls (gm_tys cf) U ∧ va_D (fun _ => True) [(q, .inr (cj, fs0))] ∧ gm_nw U)) [.ref q] := ⟨fun a U g mk z => by
      obtain ⟨z0, z1, zP, zK, zD, zN⟩ := z
      exact ⟨z0, z1, zP, va_K.moved (u := U) (U := U.calling g mk a) (Vm.Alike.refl U.vm) zK, zD, fun w hw => gm_nst_bl w hw U g mk a (zN w hw)⟩, fun U hU hW => ⟨rfl, by rw [hU], by rw [hU]; exact hPc, va_K.moved hW.alike hK, hDc.weaken (fun _ _ _ _ => trivial), gm_nw_mv hW hnw⟩⟩
  have hro : 2 * (F0 m (pc + 3 + 1) ls (.ref q :: .ref q :: st)).monitorRoom + ((Value.ref q :: st).map fun v => v.category).sum ≤ 8 := by
    have : 2 * (F0 m (pc + 3 + 1) ls (.ref q :: .ref q :: st)).monitorRoom = 0 := rfl
    simp only [List.map_cons, List.sum_cons]
    have h1 : (Value.ref q).category = 1 := rfl
    omega
  have go : ∀ run : va_Run p l e R s m args below meth c H1 locs (cells + 1) (slots + nf) mc ms (F0 m (pc + 3 + 1) ls (.ref q :: .ref q :: st)) (.ref q :: st) (va_Qv (fun w : va_W => sh q w) (fun w t => va_P cf.1 gm_cls w t.heap ∧ va_D (va_A [(q, .inr (cj, fs0))] H1.size) w) (va_A [(q, .inr (cj, fs0))] H1.size) (Value.ref q :: []).toArray) (va_A [(q, .inr (cj, fs0))] H1.size), W p l e R s m args below meth c H1 locs (cells + 1) (slots + nf) Q (F0 m (pc + 3 + 1) ls (.ref q :: .ref q :: st)) := fun run => by
    refine va_callv run hS1 (fun q _ h => hFc q h) hFc (fun u t H2 locs2 ht hvm hsh hB hz1 hk1 hS2 => ?_)
    obtain ⟨hP2, hD2⟩ := hB
    rw [ht] at hP2
    obtain ⟨hP3, hD3⟩ := va_join (wr := ws) (w1 := u) hP1 hD1 [ws.length] (List.range ws.length) (by simp) (gm_rng ws _) (gm_nd _ List.nodup_range) (fun i hi => by simp at hi ⊢; omega) hk1 hFc hP2 hD2
    exact kk q u hsh H2 locs2 ls hP3 hD3 hS2 hl
  rcases hlk with hlk | hlk
  · exact go (va_runIN (As := []) (rest := .ref q :: st) ⟨hx, hb, hml, hown, hts⟩ (hM q H1.size) ⟨va_cnB 0 hts hG rfl rfl rfl (hnw _ hlk) (hts _ hy.2.1) ⟨hy.2.2.2.2.1, hy.2.2.2.2.2.1, hy.2.2.2.2.2.2⟩ hR, hy.2.2.2.1, hts _ hy.2.2.1⟩ hpre rfl rfl hl.1 rfl hro hd3 ⟨hc, hsl⟩)
  · exact go (va_runI (As := []) (rest := .ref q :: st) ⟨hx, hb, hml, hown, hts⟩ (hM q H1.size) (cwI 0 hts hG rfl rfl rfl (hts _ hy.2.1) (hts _ hlk) (hts _ hy.2.2.1) hy.2.2.2.1 ⟨hy.2.2.2.2.1, hy.2.2.2.2.2.1, hy.2.2.2.2.2.2⟩ hR) hpre rfl rfl hl.1 rfl hro hd3 ⟨hc, hsl⟩)
theorem lb_ast (C : lb_F p s m args c cf A cc nL own) {k : Fin 4} {i x : Nat} {lv' : List (Nat × Value)} (hd : decode cc pc = .ok (.astore_n k, 1)) (hi : (k : Nat) = i) (hn : i < nL) (hl' : (i, Value.ref x) :: lv.filter (fun q => !(q.1 == i) && !(q.1 + 1 == i && q.2.category == 2)) = lv') (kk : gm_I p l e R s m args below meth c Q cf A nL ws cells slots (pc + 1) lv' st) : gm_I p l e R s m args below meth c Q cf A nL ws cells slots pc lv (.ref x :: st) := fun H locs ls hP hD hS hl => lv_astore_n C.1 C.2.1 hd hi hl hn hl' (fun ls' hls => kk H locs ls' hP hD hS hls)
theorem lb_ist (C : lb_F p s m args c cf A cc nL own) {k : Fin 4} {i : Nat} {x : Int32} {lv' : List (Nat × Value)} (hd : decode cc pc = .ok (.istore_n k, 1)) (hi : (k : Nat) = i) (hn : i < nL) (hl' : (i, Value.int x) :: lv.filter (fun q => !(q.1 == i) && !(q.1 + 1 == i && q.2.category == 2)) = lv') (kk : gm_I p l e R s m args below meth c Q cf A nL ws cells slots (pc + 1) lv' st) : gm_I p l e R s m args below meth c Q cf A nL ws cells slots pc lv (.int x :: st) := fun H locs ls hP hD hS hl => lv_istore_n C.1 C.2.1 hd hi hl hn hl' (fun ls' hls => kk H locs ls' hP hD hS hls)
theorem lb_ic (C : lb_F p s m args c cf A cc nL own) {n : Int} {v : Int32} (hd : decode cc pc = .ok (.iconst n, 1)) (hv : Int32.ofInt n = v) (kk : gm_I p l e R s m args below meth c Q cf A nL ws cells slots (pc + 1) lv (.int v :: st)) : gm_I p l e R s m args below meth c Q cf A nL ws cells slots pc lv st := fun H locs ls hP hD hS hl => lv_iconst C.1 C.2.1 hd hv (kk H locs ls hP hD hS hl)
end LB
theorem lb_P1 {D : va_G} {cl : List vw_C} {w1 w2 : va_W} {H : Heap} (h : va_P D cl (w1 ++ w2) H) : va_P D cl w1 H := fun k q hq => h k q (by rw [List.getElem?_append_left (List.getElem?_eq_some_iff.mp hq).1]; exact hq)
theorem lb_P2 {D : va_G} {cl : List vw_C} {w1 w2 : va_W} {H : Heap} (h : va_P D cl (w1 ++ w2) H) : va_P D cl w2 H := fun k q hq => h (w1.length + k) q (by rw [List.getElem?_append_right (Nat.le_add_right _ _), Nat.add_sub_cancel_left]; exact hq)
theorem lb_D1 {A : Nat → Prop} {w1 w2 : va_W} (h : va_D A (w1 ++ w2)) : va_D (fun q => A q ∧ ∀ (k : Nat) (x : Nat × va_E), w2[k]? = some x → q ≠ x.1) w1 := by
  have e1 : ∀ (k : Nat) (q : Nat × va_E), w1[k]? = some q → (w1 ++ w2)[k]? = some q ∧ k < w1.length := fun k q hq => ⟨by rw [List.getElem?_append_left (List.getElem?_eq_some_iff.mp hq).1]; exact hq, (List.getElem?_eq_some_iff.mp hq).1⟩
  refine ⟨fun i j x y hx hy hxy => h.1 i j x y (e1 i x hx).1 (e1 j y hy).1 hxy, fun k q hq => ⟨h.2 k q (e1 k q hq).1, fun j x hx hqx => ?_⟩⟩
  have e2 : (w1 ++ w2)[w1.length + j]? = some x := by rw [List.getElem?_append_right (Nat.le_add_right _ _), Nat.add_sub_cancel_left]; exact hx
  have := h.1 k (w1.length + j) q x (e1 k q hq).1 e2 hqx
  have := (e1 k q hq).2
  omega
theorem lb_D2 {A : Nat → Prop} {w1 w2 : va_W} (h : va_D A (w1 ++ w2)) : va_D A w2 := by
  have e2 : ∀ (k : Nat) (q : Nat × va_E), w2[k]? = some q → (w1 ++ w2)[w1.length + k]? = some q := fun k q hq => by rw [List.getElem?_append_right (Nat.le_add_right _ _), Nat.add_sub_cancel_left]; exact hq
  refine ⟨fun i j x y hx hy hxy => ?_, fun k q hq => h.2 _ q (e2 k q hq)⟩
  have := h.1 _ _ x y (e2 i x hx) (e2 j y hy) hxy
  omega
