theorem whole_start {p : Program} {e : Env} {s : State} {m : MethodId} {below : List Frame} {meth : Method} {c : Code} (l : Launch) (hflags : l.flags = flags0) {b L : Nat} {xs : Nat → Int32} (hL : L ≤ 2560) (C0 : lw_At p s m meth c b L xs) : W p l e room_1 s m #[Value.ref b] below meth c s.heap [] 0 0 (lw_Z below #[Value.ref b] s) (entryFrame m ([Value.ref b] : List Value).toArray 4) := by
  obtain ⟨hx, hb, hr, hml, hown, hts, hX, hbl, hlocks, hgv⟩ := id C0
  have hg : ∀ w ∈ gm_tbl, w.before #[Value.ref b] s = true := fun w h => hts w (List.mem_filter.mp h).1
  obtain ⟨cf, hK⟩ := lb_known hts
  have hZ : gm_Z (la_A s) s s.heap := ⟨lb_la hts hgv, lb_ga hts hgv⟩
  have C : lb_F p s m #[Value.ref b] c cf (la_A s) code 4 R_law := ⟨hx, hb, hml, hown, hg, hK, lb_nw hts, fun _ h => h⟩
  have main : gm_I p l e room_1 s m #[Value.ref b] below meth c (lw_Z below #[Value.ref b] s) cf (la_A s) 4 [] 0 0 0 [(0, .ref b)] [] := by
    refine lb_mk C (ini_10 l cf) kc_10 lb_y10 lb_cl10 lb_n10 lb_i10 lb_f10 (Or.inr lb_m10) ⟨Nat.le_of_ble_eq_true rfl, Nat.le_of_ble_eq_true rfl⟩ (Nat.le_of_ble_eq_true rfl) (Nat.le_of_ble_eq_true rfl) (Nat.le_of_ble_eq_true rfl) dl_0 dl_3 dl_4 (fun q1 w1 s1 => ?_)
    refine lb_ast (lv' := [(1, .ref q1), (0, .ref b)]) C dl_7 rfl (by decide) rfl ?_
    refine lb_mk C (ini_11 l cf) kc_11 lb_y11 lb_cl11 lb_n11 lb_i11 lb_f11 (Or.inr lb_m11) ⟨Nat.le_of_ble_eq_true rfl, Nat.le_of_ble_eq_true rfl⟩ (Nat.le_of_ble_eq_true rfl) (Nat.le_of_ble_eq_true rfl) (Nat.le_of_ble_eq_true rfl) dl_8 dl_11 dl_12 (fun q2 w2 s2 => ?_)
    refine lb_ast (lv' := [(2, .ref q2), (1, .ref q1), (0, .ref b)]) C dl_15 rfl (by decide) rfl ?_
    refine lb_ic (v := nI 0) C dl_16 (by decide +kernel) ?_
    refine lb_ist (lv' := [(3, .int (nI 0)), (2, .ref q2), (1, .ref q1), (0, .ref b)]) C dl_17 rfl (by decide) rfl ?_
    refine ci_widen (k := 123) (n := 3388) (Nat.le_of_ble_eq_true rfl) (Nat.le_of_ble_eq_true rfl) ?_
    obtain ⟨adM, e2, e3⟩ := s2
    rw [wd_mod] at e3
    subst e3
    subst e2
    intro H locs ls hP hD hS hl
    obtain ⟨adC, e1, hPC, hDC⟩ := wd_all cf s1 (lb_P1 hP) (lb_D1 hD)
    subst e1
    have hPM := lb_P2 hP
    have hDM := lb_D2 hD
    have hap : la_Ap s adC adM := ⟨fun i hi => (hDC.2 i _ (gm_at hi)).1, fun i hi => hDM.2 i _ (gm_at hi), fun i j hi hj h => hDC.1 i j _ _ (gm_at hi) (gm_at hj) h, fun i j hi hj h => hDM.1 i j _ _ (gm_at hi) (gm_at hj) h, fun i j hi hj h => (hDC.2 i _ (gm_at hi)).2 j _ (gm_at hj) h⟩
    exact la_loop ⟨hx, hb, hml, hown, hg, hK, hZ, hX, hbl, hap⟩ hr hlocks hL L 0 gm_C0 gm_M0 (by omega) (Nat.zero_le _) px_start H locs ls hPC hPM hS hl
  have hl := lv_entry ([.ref b]) (n := 4) (Nat.le_of_ble_eq_true rfl)
  rw [lg_entry_eq]
  exact main s.heap [] _ (fun k q h => by simp at h) ⟨fun i j p q h => by simp at h, fun k q h => by simp at h⟩ va_S.rf hl
