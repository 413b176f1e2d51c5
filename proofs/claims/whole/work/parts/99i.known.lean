theorem lb_oa {args : Array Value} {s : State} (h : (Cond.arrayOver (.array .long)).before args s = true) : ∃ (comp c : ClassId) (k : Class), s.vm.classes[c]? = some k ∧ k.kind = .array comp (.array .long) ∧ s.vm.findClass ("[" ++ (FieldType.array .long).toString) = some c := by
  unfold Cond.before at h
  simp only [Cond.holds, Cond.value, beq_iff_eq] at h
  cases h0 : s.vm.findClass (FieldType.array .long).toString with
  | none => rw [h0] at h; simp at h
  | some comp =>
    rw [h0] at h
    simp only [Option.bind_some, Option.bind_eq_some_iff, Option.map_eq_some_iff] at h
    obtain ⟨c, hi, k, hk, hb⟩ := h
    obtain ⟨hlt, hp, -⟩ := Array.findIdx?_eq_some_iff_getElem.mp hi
    have hkk : s.vm.classes[c] = k := (Array.getElem?_eq_some_iff.mp hk).2
    rw [hkk] at hp
    cases hkind : k.kind with
    | array component ty =>
      rw [hkind] at hb
      simp at hb
      exact ⟨component, c, k, hk, by rw [hkind, hb.1], hb.2⟩
    | _ => rw [hkind] at hb; simp at hb
theorem lb_known {args : Array Value} {s : State} (hts : ∀ w ∈ lw_tbl, w.before args s = true) : ∃ cf : gm_C, va_K cf.1 gm_cls (gm_tys cf) s := by
  have hg : ∀ w ∈ gm_tbl, w.before args s = true := fun w h => hts w (List.mem_filter.mp h).1
  obtain ⟨c0, i0, h0⟩ := u_known (C := RX0) (T := TX0) (N := 3) (n := 3) hg kc_0.2.2.1 (hg (.instantiable RX0 3) (gm_in_tbl 289 (by decide +kernel) (by decide +kernel)))
  obtain ⟨c1, i1, h1⟩ := u_known (C := RX1) (T := TX1) (N := 7) (n := 7) hg kc_1.2.2.1 (hg (.instantiable RX1 7) (gm_in_tbl 256 (by decide +kernel) (by decide +kernel)))
  obtain ⟨c2, i2, h2⟩ := u_known (C := RX2) (T := TX2) (N := 3) (n := 3) hg kc_2.2.2.1 (hg (.instantiable RX2 3) (gm_in_tbl 310 (by decide +kernel) (by decide +kernel)))
  obtain ⟨c3, i3, h3⟩ := u_known (C := RX3) (T := TX3) (N := 10) (n := 10) hg kc_3.2.2.1 (hg (.instantiable RX3 10) (gm_in_tbl 178 (by decide +kernel) (by decide +kernel)))
  obtain ⟨c4, i4, h4⟩ := u_known (C := RX4) (T := TX4) (N := 3) (n := 3) hg kc_4.2.2.1 (hg (.instantiable RX4 3) (gm_in_tbl 236 (by decide +kernel) (by decide +kernel)))
  obtain ⟨c5, i5, h5⟩ := u_known (C := RX5) (T := TX5) (N := 7) (n := 7) hg kc_5.2.2.1 (hg (.instantiable RX5 7) (gm_in_tbl 77 (by decide +kernel) (by decide +kernel)))
  obtain ⟨c7, i7, h7⟩ := u_known (C := RX7) (T := TX7) (N := 2) (n := 2) hg kc_7.2.2.1 (hg (.instantiable RX7 2) (gm_in_tbl 83 (by decide +kernel) (by decide +kernel)))
  obtain ⟨c8, i8, h8⟩ := u_known (C := RX8) (T := TX8) (N := 3) (n := 3) hg kc_8.2.2.1 (hg (.instantiable RX8 3) (gm_in_tbl 186 (by decide +kernel) (by decide +kernel)))
  obtain ⟨c9, i9, h9⟩ := u_known (C := RX9) (T := TX9) (N := 9) (n := 9) hg kc_9.2.2.1 (hg (.instantiable RX9 9) (gm_in_tbl 99 (by decide +kernel) (by decide +kernel)))
  obtain ⟨c10, i10, h10⟩ := u_known (C := RX10) (T := TX10) (N := 9) (n := 9) hg kc_10.2.2.1 (hg (.instantiable RX10 9) (gm_in_tbl 69 (by decide +kernel) (by decide +kernel)))
  obtain ⟨c11, i11, h11⟩ := u_known (C := RX11) (T := TX11) (N := 37) (n := 37) hg kc_11.2.2.1 (hg (.instantiable RX11 37) (gm_in_tbl 835 (by decide +kernel) (by decide +kernel)))
  obtain ⟨a0, k0, p0, x0, y0, z0⟩ := Cond.arrayClass_spec (hts (.arrayClass .int) (List.mem_of_getElem? (i := 148) (by decide +kernel)))
  obtain ⟨a1, k1, p1, x1, y1, z1⟩ := Cond.arrayClass_spec (hts (.arrayClass .char) (List.mem_of_getElem? (i := 97) (by decide +kernel)))
  obtain ⟨a2, k2, p2, x2, y2, z2⟩ := Cond.arrayClass_spec (hts (.arrayClass .boolean) (List.mem_of_getElem? (i := 307) (by decide +kernel)))
  obtain ⟨a3, k3, p3, x3, y3, z3⟩ := Cond.arrayClass_spec (hts (.arrayClass .long) (List.mem_of_getElem? (i := 202) (by decide +kernel)))
  obtain ⟨p4, a4, k4, y4, z4, x4⟩ := lb_oa (hts (.arrayOver (.array .long)) (List.mem_of_getElem? (i := 184) (by decide +kernel)))
  obtain ⟨p5, a5, k5, u5, v5, y5, z5, x5⟩ := Cond.arrayOver_spec (hts (.arrayOver (.object RX9)) (List.mem_of_getElem? (i := 242) (by decide +kernel)))
  obtain ⟨p6, a6, k6, u6, v6, y6, z6, x6⟩ := Cond.arrayOver_spec (hts (.arrayOver (.object RX2)) (List.mem_of_getElem? (i := 309) (by decide +kernel)))
  refine ⟨((fun k => ([c0, c1, c2, c3, c4, c5, c0, c7, c8, c9, c10, c11] : List ClassId).getD k 0, fun k => ([i0, i1, i2, i3, i4, i5, i0, i7, i8, i9, i10, i11] : List (Nat → Nat)).getD k i0), fun k => ([a0, a1, a2, a3, a4, a5, a6] : List ClassId).getD k 0), ?_, ?_⟩
  · intro k q hq
    match k, hq with
    | 0, hq => cases hq; exact h0
    | 1, hq => cases hq; exact h1
    | 2, hq => cases hq; exact h2
    | 3, hq => cases hq; exact h3
    | 4, hq => cases hq; exact h4
    | 5, hq => cases hq; exact h5
    | 6, hq => cases hq; exact h0
    | 7, hq => cases hq; exact h7
    | 8, hq => cases hq; exact h8
    | 9, hq => cases hq; exact h9
    | 10, hq => cases hq; exact h10
    | 11, hq => cases hq; exact h11
    | k + 12, hq => simp [gm_cls] at hq
  · intro k q hq
    match k, hq with
    | 0, hq => cases hq; exact ⟨fun n z => ⟨fun k h => (by cases h), k0, y0, p0, z0⟩, x0⟩
    | 1, hq => cases hq; exact ⟨fun n z => ⟨fun k h => (by cases h), k1, y1, p1, z1⟩, x1⟩
    | 2, hq => cases hq; exact ⟨fun n z => ⟨fun k h => (by cases h), k2, y2, p2, z2⟩, x2⟩
    | 3, hq => cases hq; exact ⟨fun n z => ⟨fun k h => (by cases h), k3, y3, p3, z3⟩, x3⟩
    | 4, hq => cases hq; exact ⟨fun n z => ⟨fun k h => (by cases h), k4, y4, p4, z4⟩, x4⟩
    | 5, hq => cases hq; exact ⟨fun n z => ⟨fun k h => (by cases h), k5, y5, p5, z5⟩, k5, p5, y5, z5, u5, x5⟩
    | 6, hq => cases hq; exact ⟨fun n z => ⟨fun k h => (by cases h), k6, y6, p6, z6⟩, k6, p6, y6, z6, u6, x6⟩
    | k + 7, hq => simp [gm_tys] at hq
theorem lb_la {args : Array Value} {s : State} (hts : ∀ w ∈ lw_tbl, w.before args s = true) (hgv : (Jvm.Cond.and given_1 narrow_1).before args s = true) : ∃ t : Nat, va_Z RX6 "LEAST_A" "[I" (.ref t) (la_A s) s s.heap ∧ va_T .int t 5 (fun j => .int (gm_la j)) (la_A s) s s.heap := by
  have hs := flat_of_before _ hgv
  have hA : ∀ a : Nat, a < s.heap.size → ¬ la_A s a := fun a h => Nat.not_le.mpr h
  obtain ⟨t, ht, hT⟩ := va_Tof (tm := (.static RX6 "LEAST_A" "[I")) (ty := .int) (N := 5) (f := fun j => .int (gm_la j)) (A := la_A s) (by decide) (hs (.arrayOf (.static RX6 "LEAST_A" "[I") .int) (by decide +kernel)) (va_eqt (hs (.eq (.length (.static RX6 "LEAST_A" "[I")) (.int (Int32.ofNat 5))) (by decide +kernel))) (fun j hj => by
    rcases (show j = 0 ∨ j = 1 ∨ j = 2 ∨ j = 3 ∨ j = 4 by omega) with rfl | rfl | rfl | rfl | rfl
    · exact va_eqt (hs (.eq (.elem (.static RX6 "LEAST_A" "[I") (.int (Int32.ofNat 0))) (.int (gm_la 0))) (by decide +kernel))
    · exact va_eqt (hs (.eq (.elem (.static RX6 "LEAST_A" "[I") (.int (Int32.ofNat 1))) (.int (gm_la 1))) (by decide +kernel))
    · exact va_eqt (hs (.eq (.elem (.static RX6 "LEAST_A" "[I") (.int (Int32.ofNat 2))) (.int (gm_la 2))) (by decide +kernel))
    · exact va_eqt (hs (.eq (.elem (.static RX6 "LEAST_A" "[I") (.int (Int32.ofNat 3))) (.int (gm_la 3))) (by decide +kernel))
    · exact va_eqt (hs (.eq (.elem (.static RX6 "LEAST_A" "[I") (.int (Int32.ofNat 4))) (.int (gm_la 4))) (by decide +kernel))) hA
  exact ⟨t, va_Zref (hts (.laysStatic RX6 "LEAST_A" "[I") (List.mem_of_getElem? (i := 429) (by decide +kernel))) (hts (.initialized RX6) (List.mem_of_getElem? (i := 64) (by decide +kernel))) ht hA, hT⟩
theorem lb_ga {args : Array Value} {s : State} (hts : ∀ w ∈ lw_tbl, w.before args s = true) (hgv : (Jvm.Cond.and given_1 narrow_1).before args s = true) : ∃ t : Nat, va_Z RX6 "GREATEST_A" "[I" (.ref t) (la_A s) s s.heap ∧ va_T .int t 5 (fun j => .int (gm_ga j)) (la_A s) s s.heap := by
  have hs := flat_of_before _ hgv
  have hA : ∀ a : Nat, a < s.heap.size → ¬ la_A s a := fun a h => Nat.not_le.mpr h
  obtain ⟨t, ht, hT⟩ := va_Tof (tm := (.static RX6 "GREATEST_A" "[I")) (ty := .int) (N := 5) (f := fun j => .int (gm_ga j)) (A := la_A s) (by decide) (hs (.arrayOf (.static RX6 "GREATEST_A" "[I") .int) (by decide +kernel)) (va_eqt (hs (.eq (.length (.static RX6 "GREATEST_A" "[I")) (.int (Int32.ofNat 5))) (by decide +kernel))) (fun j hj => by
    rcases (show j = 0 ∨ j = 1 ∨ j = 2 ∨ j = 3 ∨ j = 4 by omega) with rfl | rfl | rfl | rfl | rfl
    · exact va_eqt (hs (.eq (.elem (.static RX6 "GREATEST_A" "[I") (.int (Int32.ofNat 0))) (.int (gm_ga 0))) (by decide +kernel))
    · exact va_eqt (hs (.eq (.elem (.static RX6 "GREATEST_A" "[I") (.int (Int32.ofNat 1))) (.int (gm_ga 1))) (by decide +kernel))
    · exact va_eqt (hs (.eq (.elem (.static RX6 "GREATEST_A" "[I") (.int (Int32.ofNat 2))) (.int (gm_ga 2))) (by decide +kernel))
    · exact va_eqt (hs (.eq (.elem (.static RX6 "GREATEST_A" "[I") (.int (Int32.ofNat 3))) (.int (gm_ga 3))) (by decide +kernel))
    · exact va_eqt (hs (.eq (.elem (.static RX6 "GREATEST_A" "[I") (.int (Int32.ofNat 4))) (.int (gm_ga 4))) (by decide +kernel))) hA
  exact ⟨t, va_Zref (hts (.laysStatic RX6 "GREATEST_A" "[I") (List.mem_of_getElem? (i := 434) (by decide +kernel))) (hts (.initialized RX6) (List.mem_of_getElem? (i := 64) (by decide +kernel))) ht hA, hT⟩
theorem lb_nst : ∀ w ∈ gm_nst, w ∈ lw_tbl := by decide +kernel
theorem lb_nsp : ∀ w ∈ gm_nst, w.onTables = true ∨ w = .arrayOver (.array .long) ∨ w = .arrayOver (.object RX9) ∨ w = .arrayOver (.object RX2) := by decide +kernel
theorem lb_nw {args : Array Value} {s : State} (hts : ∀ w ∈ lw_tbl, w.before args s = true) : gm_nw s := fun w hw => by
  have h := hts w (lb_nst w hw)
  rcases lb_nsp w hw with h1 | h1 | h1 | h1
  · exact va_Nw.of h1 h
  · rw [h1] at h ⊢; exact h
  · rw [h1] at h ⊢; exact h
  · rw [h1] at h ⊢; exact h
