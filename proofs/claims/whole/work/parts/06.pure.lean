abbrev gm_rm (x y : Int32) : Int32 := x - x / y * y
abbrev gm_rml (x y : Int64) : Int64 := x - x / y * y
def gm_bp1 {α1 β : Type} (x : Option (α1)) (k : α1 → Option β) : Option β := match x with
  | none => none
  | some v => k v
theorem gm_bp1_s {α1 β : Type} {x : Option (α1)} {k : α1 → Option β} {r : β} (h : gm_bp1 x k = some r) : ∃ a1, x = some a1 ∧ k a1 = some r := by
  cases x with
  | none => cases h
  | some v => exact ⟨v, rfl, h⟩
theorem gm_bp1_e {α1 β : Type} {x : Option (α1)} {k : α1 → Option β} {a1 : α1} (h : x = some a1) : gm_bp1 x k = k a1 := by rw [h]; rfl
def gm_bp2 {α1 α2 β : Type} (x : Option (α1 × α2)) (k : α1 → α2 → Option β) : Option β := match x with
  | none => none
  | some v => k v.1 v.2
theorem gm_bp2_s {α1 α2 β : Type} {x : Option (α1 × α2)} {k : α1 → α2 → Option β} {r : β} (h : gm_bp2 x k = some r) : ∃ a1 a2, x = some (a1, a2) ∧ k a1 a2 = some r := by
  cases x with
  | none => cases h
  | some v => exact ⟨v.1, v.2, rfl, h⟩
theorem gm_bp2_e {α1 α2 β : Type} {x : Option (α1 × α2)} {k : α1 → α2 → Option β} {a1 : α1} {a2 : α2} (h : x = some (a1, a2)) : gm_bp2 x k = k a1 a2 := by rw [h]; rfl
def gm_bp3 {α1 α2 α3 β : Type} (x : Option (α1 × α2 × α3)) (k : α1 → α2 → α3 → Option β) : Option β := match x with
  | none => none
  | some v => k v.1 v.2.1 v.2.2
theorem gm_bp3_s {α1 α2 α3 β : Type} {x : Option (α1 × α2 × α3)} {k : α1 → α2 → α3 → Option β} {r : β} (h : gm_bp3 x k = some r) : ∃ a1 a2 a3, x = some (a1, a2, a3) ∧ k a1 a2 a3 = some r := by
  cases x with
  | none => cases h
  | some v => exact ⟨v.1, v.2.1, v.2.2, rfl, h⟩
theorem gm_bp3_e {α1 α2 α3 β : Type} {x : Option (α1 × α2 × α3)} {k : α1 → α2 → α3 → Option β} {a1 : α1} {a2 : α2} {a3 : α3} (h : x = some (a1, a2, a3)) : gm_bp3 x k = k a1 a2 a3 := by rw [h]; rfl
def gm_bp4 {α1 α2 α3 α4 β : Type} (x : Option (α1 × α2 × α3 × α4)) (k : α1 → α2 → α3 → α4 → Option β) : Option β := match x with
  | none => none
  | some v => k v.1 v.2.1 v.2.2.1 v.2.2.2
theorem gm_bp4_s {α1 α2 α3 α4 β : Type} {x : Option (α1 × α2 × α3 × α4)} {k : α1 → α2 → α3 → α4 → Option β} {r : β} (h : gm_bp4 x k = some r) : ∃ a1 a2 a3 a4, x = some (a1, a2, a3, a4) ∧ k a1 a2 a3 a4 = some r := by
  cases x with
  | none => cases h
  | some v => exact ⟨v.1, v.2.1, v.2.2.1, v.2.2.2, rfl, h⟩
theorem gm_bp4_e {α1 α2 α3 α4 β : Type} {x : Option (α1 × α2 × α3 × α4)} {k : α1 → α2 → α3 → α4 → Option β} {a1 : α1} {a2 : α2} {a3 : α3} {a4 : α4} (h : x = some (a1, a2, a3, a4)) : gm_bp4 x k = k a1 a2 a3 a4 := by rw [h]; rfl
def gm_bp5 {α1 α2 α3 α4 α5 β : Type} (x : Option (α1 × α2 × α3 × α4 × α5)) (k : α1 → α2 → α3 → α4 → α5 → Option β) : Option β := match x with
  | none => none
  | some v => k v.1 v.2.1 v.2.2.1 v.2.2.2.1 v.2.2.2.2
theorem gm_bp5_s {α1 α2 α3 α4 α5 β : Type} {x : Option (α1 × α2 × α3 × α4 × α5)} {k : α1 → α2 → α3 → α4 → α5 → Option β} {r : β} (h : gm_bp5 x k = some r) : ∃ a1 a2 a3 a4 a5, x = some (a1, a2, a3, a4, a5) ∧ k a1 a2 a3 a4 a5 = some r := by
  cases x with
  | none => cases h
  | some v => exact ⟨v.1, v.2.1, v.2.2.1, v.2.2.2.1, v.2.2.2.2, rfl, h⟩
theorem gm_bp5_e {α1 α2 α3 α4 α5 β : Type} {x : Option (α1 × α2 × α3 × α4 × α5)} {k : α1 → α2 → α3 → α4 → α5 → Option β} {a1 : α1} {a2 : α2} {a3 : α3} {a4 : α4} {a5 : α5} (h : x = some (a1, a2, a3, a4, a5)) : gm_bp5 x k = k a1 a2 a3 a4 a5 := by rw [h]; rfl
def gm_bp6 {α1 α2 α3 α4 α5 α6 β : Type} (x : Option (α1 × α2 × α3 × α4 × α5 × α6)) (k : α1 → α2 → α3 → α4 → α5 → α6 → Option β) : Option β := match x with
  | none => none
  | some v => k v.1 v.2.1 v.2.2.1 v.2.2.2.1 v.2.2.2.2.1 v.2.2.2.2.2
theorem gm_bp6_s {α1 α2 α3 α4 α5 α6 β : Type} {x : Option (α1 × α2 × α3 × α4 × α5 × α6)} {k : α1 → α2 → α3 → α4 → α5 → α6 → Option β} {r : β} (h : gm_bp6 x k = some r) : ∃ a1 a2 a3 a4 a5 a6, x = some (a1, a2, a3, a4, a5, a6) ∧ k a1 a2 a3 a4 a5 a6 = some r := by
  cases x with
  | none => cases h
  | some v => exact ⟨v.1, v.2.1, v.2.2.1, v.2.2.2.1, v.2.2.2.2.1, v.2.2.2.2.2, rfl, h⟩
theorem gm_bp6_e {α1 α2 α3 α4 α5 α6 β : Type} {x : Option (α1 × α2 × α3 × α4 × α5 × α6)} {k : α1 → α2 → α3 → α4 → α5 → α6 → Option β} {a1 : α1} {a2 : α2} {a3 : α3} {a4 : α4} {a5 : α5} {a6 : α6} (h : x = some (a1, a2, a3, a4, a5, a6)) : gm_bp6 x k = k a1 a2 a3 a4 a5 a6 := by rw [h]; rfl
section GP
variable {p : Program} {l : Launch} {e : Env} {R : Room} {s : State} {m : MethodId} {args : Array Value} {below : List Frame} {meth : Method} {c : Code} {Q : State → Prop} {cf : gm_C} {ad : Nat → Nat} {sh : gm_H} {N nL : Nat} {S S' S1 : gm_M} {pc : Nat} {lv lv' : List (Nat × Value)} {st rest : List Value} {cc : ByteArray} {own : String} {y : MethodName} {b : ByteArray} {maxL n index fr lo : Nat} {ret : Option FieldType} {As : List Value}
theorem gm_topm (h : S' = S) (k : gm_G p l e R s m args below meth c Q cf ad sh N nL S' pc lv st) : gm_G p l e R s m args below meth c Q cf ad sh N nL S pc lv st := h ▸ k
theorem gm_lve (h : lv = lv') (k : gm_G p l e R s m args below meth c Q cf ad sh N nL S pc lv' st) : gm_G p l e R s m args below meth c Q cf ad sh N nL S pc lv st := h ▸ k
theorem gm_lvp (ks : List Nat) (h : lv_pick lv ks = lv') (k : gm_G p l e R s m args below meth c Q cf ad sh N nL S pc lv' st) : gm_G p l e R s m args below meth c Q cf ad sh N nL S pc lv st := fun H locs ls hP hD hS hl => k H locs ls hP hD hS (lv_sub hl ks h)
theorem gm_iretK (C : gm_F p s m args meth c cf ad N cc nL own) {v r : Int32} {ty : FieldType} (hr : meth.sig.returnType = some ty) (hn : narrow ty (.int v) = .int v) (hd : decode cc pc = .ok (.ireturn, 1)) (hf : some v = some r) : gm_G p l e R s m args below meth c (MQ below (gm_Q cf ad sh N (some (.int r)) S) args s 0 0 (gm_A ad N)) cf ad sh N nL S pc lv [.int v] := gm_iret C hr hn hd (by rw [Option.some.inj hf])
theorem gm_lretK (C : gm_F p s m args meth c cf ad N cc nL own) {v r : Int64} (hr : meth.sig.returnType = some .long) (hd : decode cc pc = .ok (.lreturn, 1)) (hf : some v = some r) : gm_G p l e R s m args below meth c (MQ below (gm_Q cf ad sh N (some (.long r)) S) args s 0 0 (gm_A ad N)) cf ad sh N nL S pc lv [.long v] := gm_lret C hr hd (by rw [Option.some.inj hf])
theorem gm_callVi (C : gm_F p s m args meth c cf ad N cc nL own) {r : Int32} {t ci : Nat} {Cn : String} {T : u_T} {nf : Nat} {ty : Nat → FieldType} (hM : gm_Met l y b maxL ret fr lo cf ad sh N (.ref (ad t) :: As) S (some (.int r)) S1) (hN : t < N) (hk : (sh t).1 = ci) (K : gm_kc ci Cn T nf ty) (hy : gm_yv y b maxL ret n) (hc : y.cls = Cn) (hw : Cond.methodLink own index y ∈ gm_tbl) (hn : As.length = n) (hR : fr + 1 ≤ R.frames ∧ 8 + (maxL + 11) + lo ≤ R.locals) (hst : st = As.reverse ++ .ref (ad t) :: rest) (hro : (rest.map fun v => v.category).sum ≤ 8) (hd : decode cc pc = .ok (.invokevirtual index, 3))
    (kk : gm_G p l e R s m args below meth c Q cf ad sh N nL S1 (pc + 3) lv (.int r :: rest)) : gm_G p l e R s m args below meth c Q cf ad sh N nL S pc lv st := gm_callV C hM hN hk K hy hc hw hn hR hst hro hd kk
theorem gm_callSi (C : gm_F p s m args meth c cf ad N cc nL own) {r : Int32} (hM : gm_Met l y b maxL ret fr lo cf ad sh N As S (some (.int r)) S1) (hy : gm_ys y b maxL ret n) (hw : Cond.methodLink own index y ∈ gm_tbl) (hn : As.length = n) (hR : fr + 1 ≤ R.frames ∧ 8 + (maxL + 11) + lo ≤ R.locals) (hst : st = As.reverse ++ rest) (hro : (rest.map fun v => v.category).sum ≤ 8) (hd : decode cc pc = .ok (.invokestatic index, 3))
    (kk : gm_G p l e R s m args below meth c Q cf ad sh N nL S1 (pc + 3) lv (.int r :: rest)) : gm_G p l e R s m args below meth c Q cf ad sh N nL S pc lv st := gm_callS C hM hy hw hn hR hst hro hd kk
theorem gm_callVl (C : gm_F p s m args meth c cf ad N cc nL own) {r : Int64} {t ci : Nat} {Cn : String} {T : u_T} {nf : Nat} {ty : Nat → FieldType} (hM : gm_Met l y b maxL ret fr lo cf ad sh N (.ref (ad t) :: As) S (some (.long r)) S1) (hN : t < N) (hk : (sh t).1 = ci) (K : gm_kc ci Cn T nf ty) (hy : gm_yv y b maxL ret n) (hc : y.cls = Cn) (hw : Cond.methodLink own index y ∈ gm_tbl) (hn : As.length = n) (hR : fr + 1 ≤ R.frames ∧ 8 + (maxL + 11) + lo ≤ R.locals) (hst : st = As.reverse ++ .ref (ad t) :: rest) (hro : (rest.map fun v => v.category).sum ≤ 8) (hd : decode cc pc = .ok (.invokevirtual index, 3))
    (kk : gm_G p l e R s m args below meth c Q cf ad sh N nL S1 (pc + 3) lv (.long r :: rest)) : gm_G p l e R s m args below meth c Q cf ad sh N nL S pc lv st := gm_callV C hM hN hk K hy hc hw hn hR hst hro hd kk
theorem gm_callSl (C : gm_F p s m args meth c cf ad N cc nL own) {r : Int64} (hM : gm_Met l y b maxL ret fr lo cf ad sh N As S (some (.long r)) S1) (hy : gm_ys y b maxL ret n) (hw : Cond.methodLink own index y ∈ gm_tbl) (hn : As.length = n) (hR : fr + 1 ≤ R.frames ∧ 8 + (maxL + 11) + lo ≤ R.locals) (hst : st = As.reverse ++ rest) (hro : (rest.map fun v => v.category).sum ≤ 8) (hd : decode cc pc = .ok (.invokestatic index, 3))
    (kk : gm_G p l e R s m args below meth c Q cf ad sh N nL S1 (pc + 3) lv (.long r :: rest)) : gm_G p l e R s m args below meth c Q cf ad sh N nL S pc lv st := gm_callS C hM hy hw hn hR hst hro hd kk
theorem gm_callVv (C : gm_F p s m args meth c cf ad N cc nL own) {t ci : Nat} {Cn : String} {T : u_T} {nf : Nat} {ty : Nat → FieldType} (hM : gm_Met l y b maxL ret fr lo cf ad sh N (.ref (ad t) :: As) S none S1) (hN : t < N) (hk : (sh t).1 = ci) (K : gm_kc ci Cn T nf ty) (hy : gm_yv y b maxL ret n) (hc : y.cls = Cn) (hw : Cond.methodLink own index y ∈ gm_tbl) (hn : As.length = n) (hR : fr + 1 ≤ R.frames ∧ 8 + (maxL + 11) + lo ≤ R.locals) (hst : st = As.reverse ++ .ref (ad t) :: rest) (hro : (rest.map fun v => v.category).sum ≤ 8) (hd : decode cc pc = .ok (.invokevirtual index, 3))
    (kk : gm_G p l e R s m args below meth c Q cf ad sh N nL S1 (pc + 3) lv (rest)) : gm_G p l e R s m args below meth c Q cf ad sh N nL S pc lv st := gm_callV C hM hN hk K hy hc hw hn hR hst hro hd kk
theorem gm_callSv (C : gm_F p s m args meth c cf ad N cc nL own) (hM : gm_Met l y b maxL ret fr lo cf ad sh N As S none S1) (hy : gm_ys y b maxL ret n) (hw : Cond.methodLink own index y ∈ gm_tbl) (hn : As.length = n) (hR : fr + 1 ≤ R.frames ∧ 8 + (maxL + 11) + lo ≤ R.locals) (hst : st = As.reverse ++ rest) (hro : (rest.map fun v => v.category).sum ≤ 8) (hd : decode cc pc = .ok (.invokestatic index, 3))
    (kk : gm_G p l e R s m args below meth c Q cf ad sh N nL S1 (pc + 3) lv (rest)) : gm_G p l e R s m args below meth c Q cf ad sh N nL S pc lv st := gm_callS C hM hy hw hn hR hst hro hd kk
end GP
def gm_lC : List (Nat × Nat × Nat × Nat) := [(10, 0, 0, 0), (5, 0, 0, 0), (7, 0, 0, 0), (101, 240, 0, 0), (9, 0, 0, 0), (100, 4, 0, 0), (100, 8, 0, 0), (100, 25, 0, 0), (9, 0, 0, 0), (100, 4, 0, 0), (100, 8, 0, 0), (100, 25, 0, 0), (3, 0, 0, 0), (104, 4, 14, 1), (103, 157, 0, 0), (103, 157, 0, 0), (103, 157, 0, 0), (103, 157, 0, 0), (100, 4, 0, 0), (103, 157, 0, 0), (8, 0, 0, 0), (100, 4, 0, 0), (4, 0, 0, 0), (105, 16, 24, 4), (9, 0, 0, 0), (100, 4, 0, 0), (100, 8, 0, 0), (100, 25, 0, 0), (9, 0, 0, 0), (100, 4, 0, 0), (100, 8, 0, 0), (100, 25, 0, 0), (9, 0, 0, 0), (100, 4, 0, 0), (100, 8, 0, 0), (100, 25, 0, 0), (9, 0, 0, 0), (100, 4, 0, 0), (100, 8, 0, 0), (100, 25, 0, 0), (9, 0, 0, 0), (100, 4, 0, 0), (100, 8, 0, 0), (100, 25, 0, 0), (9, 0, 0, 0), (100, 4, 0, 0), (100, 8, 0, 0), (100, 25, 0, 0), (9, 0, 0, 0), (100, 4, 0, 0), (100, 8, 0, 0), (100, 25, 0, 0), (9, 0, 0, 0), (100, 4, 0, 0), (100, 8, 0, 0), (100, 25, 0, 0), (9, 0, 0, 0), (100, 4, 0, 0), (100, 8, 0, 0), (100, 25, 0, 0), (9, 0, 0, 0), (100, 4, 0, 0), (100, 8, 0, 0), (100, 25, 0, 0), (9, 0, 0, 0), (100, 4, 0, 0), (100, 8, 0, 0), (100, 25, 0, 0), (9, 0, 0, 0), (100, 4, 0, 0), (100, 8, 0, 0), (100, 25, 0, 0), (9, 0, 0, 0), (100, 4, 0, 0), (100, 8, 0, 0), (100, 25, 0, 0), (9, 0, 0, 0), (100, 4, 0, 0), (100, 8, 0, 0), (100, 25, 0, 0), (9, 0, 0, 0), (100, 4, 0, 0), (100, 8, 0, 0), (100, 25, 0, 0), (9, 0, 0, 0), (100, 4, 0, 0), (100, 8, 0, 0), (100, 25, 0, 0), (1, 0, 0, 0), (100, 171, 0, 0), (8, 0, 0, 0), (100, 4, 0, 0), (0, 0, 0, 0), (100, 15, 0, 0), (102, 15, 0, 0), (106, 2, 96, 5), (2, 0, 0, 0), (9, 0, 0, 0), (100, 4, 0, 0), (100, 8, 0, 0), (100, 25, 0, 0), (2, 0, 0, 0), (9, 0, 0, 0), (100, 4, 0, 0), (100, 8, 0, 0), (100, 25, 0, 0)]
def gm_sC : gm_H := fun t => gm_lC.getD t (99, 0, 0, 0)
def gm_lM : List (Nat × Nat × Nat × Nat) := [(11, 0, 0, 0), (100, 5, 0, 0), (100, 42, 0, 0), (100, 240, 0, 0), (100, 4, 0, 0), (100, 4, 0, 0), (100, 4, 0, 0), (100, 4, 0, 0), (100, 4, 0, 0), (100, 5, 0, 0), (100, 672, 0, 0), (100, 8, 0, 0), (102, 8, 0, 0), (100, 15, 0, 0), (102, 15, 0, 0), (100, 86, 0, 0), (102, 2, 0, 0)]
def gm_sM : gm_H := fun t => gm_lM.getD t (99, 0, 0, 0)
abbrev gm_isTr (t : Nat) : Prop := t + 3 < 106 ∧ gm_sC t = (9, 0, 0, 0) ∧ gm_sC (t + 1) = (100, 4, 0, 0) ∧ gm_sC (t + 2) = (100, 8, 0, 0) ∧ gm_sC (t + 3) = (100, 25, 0, 0)
abbrev gm_isTk (t : Nat) : Prop := t + 1 < 106 ∧ gm_sC t = (8, 0, 0, 0) ∧ gm_sC (t + 1) = (100, 4, 0, 0)
abbrev gm_isIm (t : Nat) : Prop := t + 4 < 106 ∧ gm_sC t = (2, 0, 0, 0) ∧ gm_isTr (t + 1)
abbrev gm_isRw (t : Nat) : Prop := t < 106 ∧ gm_sC t = (103, 157, 0, 0)
abbrev gm_isW (w : Nat) : Prop := w < 17 ∧ (gm_sM w).1 = 100
theorem gm_tr_l0 {t : Nat} (h : gm_isTr t) : t < 106 := by have := h.1; omega
theorem gm_tr_k0 {t : Nat} (h : gm_isTr t) : (gm_sC t).1 = 9 := by rw [h.2.1]
theorem gm_tr_l1 {t : Nat} (h : gm_isTr t) : t + 1 < 106 := by have := h.1; omega
theorem gm_tr_k1 {t : Nat} (h : gm_isTr t) : (gm_sC (t + 1)).1 = 100 := by rw [h.2.2.1]
theorem gm_tr_n1 {t : Nat} (h : gm_isTr t) : (gm_sC (t + 1)).2.1 = 4 := by rw [h.2.2.1]
theorem gm_tr_l2 {t : Nat} (h : gm_isTr t) : t + 2 < 106 := by have := h.1; omega
theorem gm_tr_k2 {t : Nat} (h : gm_isTr t) : (gm_sC (t + 2)).1 = 100 := by rw [h.2.2.2.1]
theorem gm_tr_n2 {t : Nat} (h : gm_isTr t) : (gm_sC (t + 2)).2.1 = 8 := by rw [h.2.2.2.1]
theorem gm_tr_l3 {t : Nat} (h : gm_isTr t) : t + 3 < 106 := by have := h.1; omega
theorem gm_tr_k3 {t : Nat} (h : gm_isTr t) : (gm_sC (t + 3)).1 = 100 := by rw [h.2.2.2.2]
theorem gm_tr_n3 {t : Nat} (h : gm_isTr t) : (gm_sC (t + 3)).2.1 = 25 := by rw [h.2.2.2.2]
theorem gm_tk_l0 {t : Nat} (h : gm_isTk t) : t < 106 := by have := h.1; omega
theorem gm_tk_k0 {t : Nat} (h : gm_isTk t) : (gm_sC t).1 = 8 := by rw [h.2.1]
theorem gm_tk_l1 {t : Nat} (h : gm_isTk t) : t + 1 < 106 := by have := h.1; omega
theorem gm_tk_k1 {t : Nat} (h : gm_isTk t) : (gm_sC (t + 1)).1 = 100 := by rw [h.2.2]
theorem gm_tk_n1 {t : Nat} (h : gm_isTk t) : (gm_sC (t + 1)).2.1 = 4 := by rw [h.2.2]
theorem gm_im_l0 {t : Nat} (h : gm_isIm t) : t < 106 := by have := h.1; omega
theorem gm_im_k0 {t : Nat} (h : gm_isIm t) : (gm_sC t).1 = 2 := by rw [h.2.1]
theorem gm_im_tr {t : Nat} (h : gm_isIm t) : gm_isTr (t + 1) := h.2.2
theorem gm_rw_l0 {t : Nat} (h : gm_isRw t) : t < 106 := h.1
theorem gm_rw_k0 {t : Nat} (h : gm_isRw t) : (gm_sC t).1 = 103 := by rw [h.2]
theorem gm_rw_n0 {t : Nat} (h : gm_isRw t) : (gm_sC t).2.1 = 157 := by rw [h.2]
theorem gm_tr_ring : ∀ j, j < 16 → gm_isTr (24 + 4 * j) := by decide +kernel
theorem gm_im_a1 : ∀ j, j < 2 → gm_sC (96 + 5 * j) = (2, 0, 0, 0) := by decide +kernel
theorem gm_im_a2 : ∀ j, j < 2 → gm_isTr (96 + 5 * j + 1) := by decide +kernel
theorem gm_im_all : ∀ j, j < 2 → gm_isIm (96 + 5 * j) := fun j hj => ⟨by omega, gm_im_a1 j hj, gm_im_a2 j hj⟩
theorem gm_rw_all : ∀ j, j < 4 → gm_isRw (14 + 1 * j) := by decide +kernel
theorem gm_of_tr {i : Int32} (h : vp_in i 16) : gm_isTr (24 + 4 * i.toNatClampNeg) := gm_tr_ring _ (Nat.not_le.mp fun q => h (Or.inr q))
theorem gm_of_im {i : Int32} (h : vp_in i 2) : gm_isIm (96 + 5 * i.toNatClampNeg) := gm_im_all _ (Nat.not_le.mp fun q => h (Or.inr q))
theorem gm_of_rw {i : Int32} (h : vp_in i 4) : gm_isRw (14 + 1 * i.toNatClampNeg) := gm_rw_all _ (Nat.not_le.mp fun q => h (Or.inr q))
theorem gm_tr_4 : gm_isTr 4 := by decide +kernel
theorem gm_tr_8 : gm_isTr 8 := by decide +kernel
theorem gm_tk_20 : gm_isTk 20 := by decide +kernel
theorem gm_tk_90 : gm_isTk 90 := by decide +kernel
theorem gm_w_4 : gm_isW 4 := by decide +kernel
theorem gm_w_5 : gm_isW 5 := by decide +kernel
theorem gm_w_6 : gm_isW 6 := by decide +kernel
theorem gm_w_7 : gm_isW 7 := by decide +kernel
theorem gm_w_8 : gm_isW 8 := by decide +kernel
theorem gm_w_9 : gm_isW 9 := by decide +kernel
