def gm_tbl : List Cond := lw_tbl.filter goodWord
theorem gm_in_tbl {w : Cond} (k : Nat) (h : lw_tbl[k]? = some w) (hg : goodWord w = true) : w ∈ gm_tbl := List.mem_filter.mpr ⟨List.mem_of_getElem? h, hg⟩
abbrev gm_M : Type := (Nat → Nat → Int32) × (Nat → Nat → Int64)
abbrev gm_C : Type := va_G × (Nat → ClassId)
abbrev gm_H : Type := Nat → Nat × Nat × Nat × Nat
def gm_cls : List vw_C := [(RX0, TX0, 3), (RX1, TX1, 7), (RX2, TX2, 3), (RX3, TX3, 10), (RX4, TX4, 3), (RX5, TX5, 7), (RX0, TX0, 3), (RX7, TX7, 2), (RX8, TX8, 3), (RX9, TX9, 9), (RX10, TX10, 9), (RX11, TX11, 37)]
def gm_fd : Nat → List Nat
  | 0 => [3, 4, 0]
  | 1 => [3, 4, 0, 0, 0, 0, 0]
  | 2 => [3, 0, 1]
  | 3 => [3, 8, 9, 10, 0, 0, 0, 0, 0, 0]
  | 4 => [3, 0, 0]
  | 5 => [3, 5, 0, 0, 0, 0, 0]
  | 7 => [3, 0]
  | 8 => [3, 0, 0]
  | 9 => [3, 4, 5, 0, 0, 0, 0, 0, 0]
  | 10 => [3, 10, 14, 24, 90, 94, 97, 1, 0]
  | 11 => [0, 0, 0, 0, 0, 3, 4, 0, 5, 0, 0, 0, 0, 0, 0, 0, 0, 0, 0, 6, 7, 8, 0, 9, 10, 0, 11, 0, 12, 0, 13, 14, 0, 15, 16, 17, 18]
  | _ => []
def gm_tys (cf : gm_C) : List (ClassId × FieldType) := [(cf.2 0, .int), (cf.2 1, .char), (cf.2 2, .boolean), (cf.2 3, .long), (cf.2 4, .array .long), (cf.2 5, .object RX9), (cf.2 6, .object RX2)]
def gm_fv (ad : Nat → Nat) (I : Nat → Int32) (J : Nat → Int64) (t k d : Nat) : Value := match d with
  | 0 => .int (I k)
  | 1 => .long (J k)
  | n + 2 => .ref (ad (t + n))
def gm_fs (ad : Nat → Nat) (I : Nat → Int32) (J : Nat → Int64) (t : Nat) (ds : List Nat) : List Value := (List.range ds.length).map (fun k => gm_fv ad I J t k (ds.getD k 0))
def gm_cell (cf : gm_C) (ad : Nat → Nat) (sh : gm_H) (I : Nat → Int32) (J : Nat → Int64) (t : Nat) : va_E :=
  if (sh t).1 < 100 then .inr ((sh t).1, gm_fs ad I J t (gm_fd (sh t).1))
  else if (sh t).1 < 103 then .inl (cf.2 ((sh t).1 - 100), (sh t).2.1, .inl I)
  else if (sh t).1 = 103 then .inl (cf.2 3, (sh t).2.1, .inr (.inl J))
  else .inl (cf.2 ((sh t).1 - 100), (sh t).2.1, .inr (.inr (.inr (.inr (fun j => some (ad ((sh t).2.2.1 + (sh t).2.2.2 * j)))))))
def gm_W (cf : gm_C) (ad : Nat → Nat) (sh : gm_H) (N : Nat) (S : gm_M) : va_W := (List.range N).map (fun i => (ad i, gm_cell cf ad sh (S.1 i) (S.2 i) i))
def gm_A (ad : Nat → Nat) (N : Nat) : Nat → Prop := fun q => ∃ i, i < N ∧ ad i = q
def gm_ui (S : gm_M) (t k : Nat) (v : Int32) : gm_M := (va_up S.1 t (upd (S.1 t) k v), S.2)
def gm_uj (S : gm_M) (t k : Nat) (v : Int64) : gm_M := (S.1, va_up S.2 t (vp_updL (S.2 t) k v))
def gm_uf (S : gm_M) (t : Nat) (f : Nat → Int32) : gm_M := (va_up S.1 t f, S.2)
theorem gm_fs_at {ad : Nat → Nat} {I : Nat → Int32} {J : Nat → Int64} {t k d : Nat} {ds : List Nat} (h : ds[k]? = some d) : (gm_fs ad I J t ds)[k]? = some (gm_fv ad I J t k d) := by
  have hk : k < ds.length := (List.getElem?_eq_some_iff.mp h).1
  have hd : ds.getD k 0 = d := by rw [List.getD_eq_getElem?_getD, h]; rfl
  unfold gm_fs
  rw [List.getElem?_map, List.getElem?_range hk, Option.map_some, hd]
theorem gm_fs_len {ad : Nat → Nat} {I : Nat → Int32} {J : Nat → Int64} {t : Nat} {ds : List Nat} : (gm_fs ad I J t ds).length = ds.length := by
  simp [gm_fs]
theorem gm_fs_set {ad : Nat → Nat} {I I' : Nat → Int32} {J J' : Nat → Int64} {t k d : Nat} {ds : List Nat} (h : ds[k]? = some d) (hI : ∀ j, j ≠ k → I' j = I j) (hJ : ∀ j, j ≠ k → J' j = J j) : (gm_fs ad I J t ds).set k (gm_fv ad I' J' t k d) = gm_fs ad I' J' t ds := by
  have hk : k < ds.length := (List.getElem?_eq_some_iff.mp h).1
  have hd : ds.getD k 0 = d := by rw [List.getD_eq_getElem?_getD, h]; rfl
  apply List.ext_getElem?
  intro j
  by_cases hj : j < ds.length
  · by_cases e : k = j
    · subst e
      rw [List.getElem?_set_self (by rw [gm_fs_len]; exact hk), gm_fs_at h]
    · rw [List.getElem?_set_ne e]
      obtain ⟨dj, hdj⟩ : ∃ dj, ds[j]? = some dj := ⟨ds[j], List.getElem?_eq_getElem hj⟩
      rw [gm_fs_at hdj, gm_fs_at hdj]
      unfold gm_fv
      match dj with
      | 0 => simp only [hI j (Ne.symm e)]
      | 1 => simp only [hJ j (Ne.symm e)]
      | n + 2 => rfl
  · rw [List.getElem?_eq_none (by rw [List.length_set, gm_fs_len]; omega), List.getElem?_eq_none (by rw [gm_fs_len]; omega)]
theorem gm_at {cf : gm_C} {ad : Nat → Nat} {sh : gm_H} {N : Nat} {S : gm_M} {t : Nat} (h : t < N) : (gm_W cf ad sh N S)[t]? = some (ad t, gm_cell cf ad sh (S.1 t) (S.2 t) t) := by
  unfold gm_W
  rw [List.getElem?_map, List.getElem?_range h, Option.map_some]
theorem gm_set {cf : gm_C} {ad : Nat → Nat} {sh : gm_H} {N : Nat} {S S' : gm_M} {t : Nat} {e : va_E} (h : t < N) (he : e = gm_cell cf ad sh (S'.1 t) (S'.2 t) t) (h1 : ∀ j, j ≠ t → S'.1 j = S.1 j) (h2 : ∀ j, j ≠ t → S'.2 j = S.2 j) : (gm_W cf ad sh N S).set t (ad t, e) = gm_W cf ad sh N S' := by
  apply List.ext_getElem?
  intro j
  by_cases hj : j < N
  · by_cases e1 : t = j
    · subst e1
      rw [List.getElem?_set_self (by simp [gm_W]; exact h), gm_at h, he]
    · rw [List.getElem?_set_ne e1, gm_at hj, gm_at hj, h1 j (Ne.symm e1), h2 j (Ne.symm e1)]
  · rw [List.getElem?_eq_none (by rw [List.length_set]; simp [gm_W]; omega), List.getElem?_eq_none (by simp [gm_W]; omega)]
theorem gm_obj {cf : gm_C} {ad : Nat → Nat} {sh : gm_H} {I : Nat → Int32} {J : Nat → Int64} {t ci : Nat} (h : (sh t).1 = ci) (hc : ci < 100) : gm_cell cf ad sh I J t = .inr (ci, gm_fs ad I J t (gm_fd ci)) := by
  unfold gm_cell
  rw [h, if_pos hc]
theorem gm_iarr {cf : gm_C} {ad : Nat → Nat} {sh : gm_H} {I : Nat → Int32} {J : Nat → Int64} {t k n : Nat} (h : (sh t).1 = 100 + k) (hk : k < 3) (hn : (sh t).2.1 = n) : gm_cell cf ad sh I J t = .inl (cf.2 k, n, .inl I) := by
  unfold gm_cell
  rw [if_neg (by omega), if_pos (by omega), h, hn, Nat.add_sub_cancel_left]
theorem gm_larr {cf : gm_C} {ad : Nat → Nat} {sh : gm_H} {I : Nat → Int32} {J : Nat → Int64} {t n : Nat} (h : (sh t).1 = 103) (hn : (sh t).2.1 = n) : gm_cell cf ad sh I J t = .inl (cf.2 3, n, .inr (.inl J)) := by
  unfold gm_cell
  rw [if_neg (by omega), if_neg (by omega), if_pos h, hn]
theorem gm_rarr {cf : gm_C} {ad : Nat → Nat} {sh : gm_H} {I : Nat → Int32} {J : Nat → Int64} {t k n b d : Nat} (h : sh t = (100 + k, n, b, d)) (hk : 4 ≤ k) : gm_cell cf ad sh I J t = .inl (cf.2 k, n, .inr (.inr (.inr (.inr (fun j => some (ad (b + d * j))))))) := by
  unfold gm_cell
  rw [h]
  rw [if_neg (by omega), if_neg (by omega), if_neg (by omega), Nat.add_sub_cancel_left]
def gm_la (j : Nat) : Int32 := ([0, 0, 0, 2, 0] : List Int32).getD j 0
def gm_ga (j : Nat) : Int32 := ([36, 2, 9, 12, 3] : List Int32).getD j 0
def gm_Z (A : Nat → Prop) (U : State) (H : Heap) : Prop := (∃ t : Nat, va_Z RX6 "LEAST_A" "[I" (.ref t) A U H ∧ va_T .int t 5 (fun j => .int (gm_la j)) A U H) ∧ (∃ t : Nat, va_Z RX6 "GREATEST_A" "[I" (.ref t) A U H ∧ va_T .int t 5 (fun j => .int (gm_ga j)) A U H)
theorem gm_Z.moved {A : Nat → Prop} {u U : State} {H : Heap} (hvm : u.vm.Alike U.vm) (h : gm_Z A u H) : gm_Z A U H := by
  obtain ⟨⟨t, h1, h2⟩, ⟨t', h3, h4⟩⟩ := h
  exact ⟨⟨t, h1.moved hvm, h2.moved hvm⟩, ⟨t', h3.moved hvm, h4.moved hvm⟩⟩
theorem gm_Z.kept {A : Nat → Prop} {U : State} {H H1 : Heap} (h : gm_Z A U H) (hq : ∀ a : Nat, a < H.size → ¬ A a → H1[a]? = H[a]?) : gm_Z A U H1 := by
  obtain ⟨⟨t, h1, h2⟩, ⟨t', h3, h4⟩⟩ := h
  exact ⟨⟨t, h1.kept hq, h2.kept hq⟩, ⟨t', h3.kept hq, h4.kept hq⟩⟩
theorem gm_Z.narrow {A B : Nat → Prop} {U : State} {H : Heap} (h : gm_Z A U H) (hAB : ∀ q, B q → A q) : gm_Z B U H := by
  obtain ⟨⟨t, h1, h2⟩, ⟨t', h3, h4⟩⟩ := h
  exact ⟨⟨t, h1.narrow hAB, h2.narrow hAB⟩, ⟨t', h3.narrow hAB, h4.narrow hAB⟩⟩
def gm_P (cf : gm_C) (ad : Nat → Nat) (sh : gm_H) (N : Nat) (avs : List Value) (S : gm_M) : Array Value → State → Prop := fun v U => v = avs.toArray ∧ va_P cf.1 gm_cls (gm_W cf ad sh N S) U.heap ∧ va_K cf.1 gm_cls (gm_tys cf) U ∧ va_D (gm_A ad N) (gm_W cf ad sh N S) ∧ gm_Z (gm_A ad N) U U.heap
def gm_Q (cf : gm_C) (ad : Nat → Nat) (sh : gm_H) (N : Nat) (rv : Option Value) (S : gm_M) : Array Value → State → Outcome → State → Prop := fun _ st oc t => oc = .returned rv ∧ va_P cf.1 gm_cls (gm_W cf ad sh N S) t.heap ∧ va_D (gm_A ad N) (gm_W cf ad sh N S) ∧ va_F (gm_A ad N) st t
def gm_Met (l : Launch) (y : MethodName) (b : ByteArray) (maxL : Nat) (ret : Option FieldType) (fr lo : Nat) (cf : gm_C) (ad : Nat → Nat) (sh : gm_H) (N : Nat) (avs : List Value) (S : gm_M) (rv : Option Value) (S' : gm_M) : Prop :=
  Met l y (.code y b maxL ret :: gm_tbl) { frames := fr, cells := 0, slots := 0, locals := lo } (gm_P cf ad sh N avs S) (gm_Q cf ad sh N rv S') 0 0 (gm_A ad N)
theorem gm_P_blind {cf : gm_C} {ad : Nat → Nat} {sh : gm_H} {N : Nat} {avs : List Value} {S : gm_M} : FrameBlind (gm_P cf ad sh N avs S) := by
  intro a U g mk ⟨h1, h2, h3, h4, h5⟩
  exact ⟨h1, h2, va_K.moved (u := U) (U := U.calling g mk a) (Vm.Alike.refl U.vm) h3, h4, gm_Z.moved (u := U) (U := U.calling g mk a) (Vm.Alike.refl U.vm) h5⟩
def gm_F (p : Program) (s : State) (m : MethodId) (args : Array Value) (meth : Method) (c : Code) (cf : gm_C) (ad : Nat → Nat) (N : Nat) (cc : ByteArray) (nL : Nat) (own : String) : Prop :=
  p.tables.exec = Jvm.exec ∧ c.code = cc ∧ c.maxLocals = nL ∧ s.vm.findClass own = some m.cls ∧ (∀ w ∈ gm_tbl, w.before args s = true) ∧ va_K cf.1 gm_cls (gm_tys cf) s ∧ meth.locks = false ∧ gm_Z (gm_A ad N) s s.heap
def gm_G (p : Program) (l : Launch) (e : Env) (R : Room) (s : State) (m : MethodId) (args : Array Value) (below : List Frame) (meth : Method) (c : Code) (Q : State → Prop) (cf : gm_C) (ad : Nat → Nat) (sh : gm_H) (N nL : Nat) (S : gm_M) (pc : Nat) (lv : List (Nat × Value)) (st : List Value) : Prop :=
  ∀ (H : Heap) (locs : List Loc) (ls : Array Slot), va_P cf.1 gm_cls (gm_W cf ad sh N S) H → va_D (gm_A ad N) (gm_W cf ad sh N S) → va_S (gm_A ad N) s.heap H locs → lv_has ls nL lv → W p l e R s m args below meth c H locs 0 0 Q (F0 m pc ls st)
theorem gm_met {l : Launch} {y : MethodName} {b : ByteArray} {maxL : Nat} {ret : Option FieldType} {fr lo : Nat} {cf : gm_C} {ad : Nat → Nat} {sh : gm_H} {N : Nat} {avs : List Value} {S S' : gm_M} {rv : Option Value} (hy : plainName y.cls = true) (hsz : (lg_sl avs).length ≤ maxL)
    (body : ∀ (p : Program) (e : Env) (s : State) (m : MethodId) (args : Array Value) (below : List Frame) (meth : Method) (c : Code), gm_F p s m args meth c cf ad N b maxL y.cls → meth.sig.returnType = ret → gm_G p l e { frames := fr, cells := 0, slots := 0, locals := lo } s m args below meth c (MQ below (gm_Q cf ad sh N rv S') args s 0 0 (gm_A ad N)) cf ad sh N maxL S 0 (lv_args 0 avs) []) :
    gm_Met l y b maxL ret fr lo cf ad sh N avs S rv S' := by
  refine Met.ofW (cc := b) (maxL := maxL) (ret := ret) hy rfl ?_
  intro p e s m args below meth c s₁ B hml hv
  obtain ⟨rfl, hP, hK, hD, hZ⟩ := hv
  have hts := atoms_spec (ws := .code y b maxL ret :: gm_tbl) B.pre
  have hown : s.vm.findClass y.cls = some m.cls := findClass_of_methodNamed B.named
  have hl := lv_entry avs (n := maxL) hsz
  rw [lg_entry_eq]
  exact body p e s m avs.toArray below meth c ⟨B.exec, B.bytes, hml, hown, fun w h => hts w (List.mem_cons_of_mem _ h), hK, B.notSynchronized, hZ⟩ B.returns s.heap [] _ hP hD va_S.rf hl
