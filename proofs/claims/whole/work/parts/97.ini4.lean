section GJ
variable {p : Program} {l : Launch} {e : Env} {R : Room} {s : State} {m : MethodId} {args : Array Value} {below : List Frame} {meth : Method} {c : Code} {Q : State → Prop} {cf : gm_C} {A : Nat → Prop} {nL : Nat} {ws : va_W} {cells slots pc : Nat} {lv : List (Nat × Value)} {st : List Value} {cc : ByteArray} {own : String}
theorem ci_w {ws' : va_W} (h : ws = ws') (kk : gm_I p l e R s m args below meth c Q cf A nL ws' cells slots pc lv st) : gm_I p l e R s m args below meth c Q cf A nL ws cells slots pc lv st := h ▸ kk
theorem ci_get (C : gm_IF p s m args meth c cf A cc nL own) {h0 ci n k x : Nat} {fs : List Value} {rs : va_W} {Cn : String} {T : u_T} {ty : Nat → FieldType} {index : Nat} (K : gm_kc ci Cn T n ty) (hkn : k < n) (hr : (T k).1 = Cn) (hv : fs[k]? = some (.ref x)) (hw : Cond.fieldLink own index Cn (T k).2.1 (T k).2.2.1 ∈ gm_tbl) (hd : decode cc pc = .ok (.getfield index, 3))
    (kk : gm_I p l e R s m args below meth c Q cf A nL ((h0, .inr (ci, fs)) :: rs) cells slots (pc + 3) lv (.ref x :: st)) : gm_I p l e R s m args below meth c Q cf A nL ((h0, .inr (ci, fs)) :: rs) cells slots pc lv (.ref h0 :: st) := fun H locs ls hP hD hS hl => by
  refine va_get C.1 C.2.1 C.2.2.2.2.1 K.2.2.1 C.2.2.2.1 C.2.2.2.2.2.1 hP 0 rfl K.2.1 k hkn (C.2.2.2.2.1 _ hw) (fun x h => by rw [← hr]; exact h) hv hd ?_
  exact kk H locs ls hP hD hS hl
theorem ci_ast (C : gm_IF p s m args meth c cf A cc nL own) {pre post : va_W} {a v n ci t0 qk : Nat} {f : Nat → Option Nat} {r : vw_C} {vs : List Value} {i : Int32} (ht : (gm_tys cf)[t0]? = some (cf.2 t0, .object r.1)) (hv : (pre ++ (a, .inl (cf.2 t0, n, .inr (.inr (.inr (.inr f))))) :: post)[qk]? = some (v, .inr (ci, vs))) (hc : gm_cls[ci]? = some r) (hin : vp_in i n) (hd : decode cc pc = .ok (.aastore, 1))
    (kk : gm_I p l e R s m args below meth c Q cf A nL (pre ++ (a, .inl (cf.2 t0, n, .inr (.inr (.inr (.inr (va_up f i.toNatClampNeg (some v))))))) :: post) cells slots (pc + 1) lv st) : gm_I p l e R s m args below meth c Q cf A nL (pre ++ (a, .inl (cf.2 t0, n, .inr (.inr (.inr (.inr f))))) :: post) cells slots pc lv (.ref v :: .int i :: .ref a :: st) := fun H locs ls hP hD hS hl => by
  refine va_astq C.1 C.2.1 C.2.2.2.2.2.1 hP hD hS pre.length t0 qk ci (n := n) (f := f) (by rw [List.getElem?_append_right (Nat.le_refl _), Nat.sub_self]; rfl) ht hv hc hin hd (fun H1 locs1 hP1 hD1 hS1 => ?_)
  have e : (pre ++ (a, .inl (cf.2 t0, n, .inr (.inr (.inr (.inr f))))) :: post).set pre.length (a, .inl (cf.2 t0, n, .inr (.inr (.inr (.inr (va_up f i.toNatClampNeg (some v))))))) = pre ++ (a, .inl (cf.2 t0, n, .inr (.inr (.inr (.inr (va_up f i.toNatClampNeg (some v))))))) :: post := by simp
  rw [e] at hP1 hD1
  exact kk H1 locs1 ls hP1 hD1 hS1 hl
theorem ci_mna (C : gm_IF p s m args meth c cf A cc nL own) {h0 index : Nat} {x : va_E} (hcl : Cond.classLink own index "[[J" ∈ gm_tbl) (hov : Cond.arrayOver (.array .long) ∈ gm_nst) (hac : Cond.arrayClass .long ∈ gm_tbl) (hcells : cells + (1 + 4) ≤ R.cells) (hslots : slots + (4 + 4 * 157) ≤ R.slots) (hd : decode cc pc = .ok (.multianewarray index 2, 4))
    (kk : ∀ (q : Nat) (r : Nat → Nat) (f : Nat → Option Nat), (∀ j, j < 4 → f j = some (r j)) → gm_I p l e R s m args below meth c Q cf A nL ((h0, x) :: [(q, .inl (cf.2 4, 4, .inr (.inr (.inr (.inr f))))), (r 0, .inl (cf.2 3, 157, .inr (.inl (fun _ => 0)))), (r 1, .inl (cf.2 3, 157, .inr (.inl (fun _ => 0)))), (r 2, .inl (cf.2 3, 157, .inr (.inl (fun _ => 0)))), (r 3, .inl (cf.2 3, 157, .inr (.inl (fun _ => 0))))]) (cells + 1 + 4) (slots + 4 + 4 * 157) (pc + 4) lv (.ref q :: st)) : gm_I p l e R s m args below meth c Q cf A nL [(h0, x)] cells slots pc lv (.int 157 :: .int 4 :: st) := fun H locs ls hP hD hS hl => by
  have hcy : s.vm.findClass (FieldType.array .long).toString = some (cf.2 3) := (C.2.2.2.2.2.1.2 3 (cf.2 3, .long) rfl).2
  refine va_mna (X := [(h0, x)]) (L := []) (f := fun _ => x) (cy := cf.2 3) (ty := .long) (N' := 4) (K' := 157) (z := (157, .inr (.inl (fun _ => 0)))) C.1 C.2.1 C.2.2.2.1 (C.2.2.2.2.1 _ hcl) (C.2.2.2.2.2.2.2.2.1 _ hov) (C.2.2.2.2.1 _ hac) hcy C.2.2.2.2.2.1 hP hD hS C.2.2.2.2.2.2.2.2.2 (by decide) (by decide) (by decide) (by decide) (by decide) (by decide) (by decide) rfl rfl hcells hslots ?_ hd (fun q r cA H1 hin hnL hK1 hP1 hD1 hS1 => ?_)
  · intro cA
    exact arrV_new cA 157 (.long 0)
  · have e := gm_tys_at (j := 4) rfl C.2.2.2.2.2.1 hK1
    subst e
    have hl4 : ([] : List Nat) ++ (List.range 4).map r = [r 0, r 1, r 2, r 3] := rfl
    have ew : ([(h0, x)] ++ [(q, .inl (cf.2 4, 4, .inr (.inr (.inr (.inr (fun i => if i < 4 then some (r i) else none))))))]) ++ va_pl (([] : List Nat) ++ (List.range 4).map r) (vr_up (fun _ => x) ((List.range 4).map r) (.inl (cf.2 3, (157, .inr (.inl (fun _ => 0)))))) = (h0, x) :: [(q, .inl (cf.2 4, 4, .inr (.inr (.inr (.inr (fun i => if i < 4 then some (r i) else none)))))), (r 0, .inl (cf.2 3, 157, .inr (.inl (fun _ => 0)))), (r 1, .inl (cf.2 3, 157, .inr (.inl (fun _ => 0)))), (r 2, .inl (cf.2 3, 157, .inr (.inl (fun _ => 0)))), (r 3, .inl (cf.2 3, 157, .inr (.inl (fun _ => 0))))] := by
      rw [hl4]
      have hm : ∀ a, a ∈ (List.range 4).map r → vr_up (fun _ => x) ((List.range 4).map r) (.inl (cf.2 3, (157, .inr (.inl (fun _ => 0))))) a = (.inl (cf.2 3, (157, .inr (.inl (fun _ => 0)))) : va_E) := fun a h => vr_up_in h
      unfold va_pl
      simp only [List.map_cons, List.map_nil]
      rw [hm (r 0) (List.mem_map.mpr ⟨0, by decide, rfl⟩), hm (r 1) (List.mem_map.mpr ⟨1, by decide, rfl⟩), hm (r 2) (List.mem_map.mpr ⟨2, by decide, rfl⟩), hm (r 3) (List.mem_map.mpr ⟨3, by decide, rfl⟩)]
      rfl
    rw [ew] at hP1 hD1
    exact kk q r _ (fun j hj => if_pos hj) H1 locs ls hP1 hD1 hS1 hl
end GJ
