theorem la_and (x : Int32) : ∃ k : Nat, k < 32 ∧ x &&& 31 = nI k := by
  refine ⟨(x &&& 31).toBitVec.toNat, ?_, ?_⟩
  · rw [Int32.toBitVec_and, BitVec.toNat_and]
    exact Nat.lt_of_le_of_lt Nat.and_le_right (by decide)
  · apply Int32.toBitVec_inj.mp
    show (x &&& 31).toBitVec = BitVec.ofNat 32 (x &&& 31).toBitVec.toNat
    rw [BitVec.ofNat_toNat, BitVec.setWidth_eq]
theorem la_head {p : Program} {l : Launch} {e : Env} {s : State} {m : MethodId} {below : List Frame} {meth : Method} {c : Code} {cf : gm_C} {adC adM : Nat → Nat} {b L : Nat} {xs : Nat → Int32} {C M : gm_M} {i : Nat} (F : gm_LF p s m #[Value.ref b] meth c cf adC adM b L xs) (hL : L ≤ 2560) (hi : i ≤ L) (kE : gm_L p l e s m #[Value.ref b] below meth c (lw_Z below #[Value.ref b] s) cf adC adM C M 989 [(3, .int (nI (i))), (2, .ref (adM 0)), (1, .ref (adC 0)), (0, .ref b)] []) (kB : i + 5 ≤ L → gm_L p l e s m #[Value.ref b] below meth c (lw_Z below #[Value.ref b] s) cf adC adM C M 26 [(3, .int (nI (i))), (2, .ref (adM 0)), (1, .ref (adC 0)), (0, .ref b)] []) : gm_L p l e s m #[Value.ref b] below meth c (lw_Z below #[Value.ref b] s) cf adC adM C M 18 [(3, .int (nI (i))), (2, .ref (adM 0)), (1, .ref (adC 0)), (0, .ref b)] [] := by
  refine la_iload F dl_18 rfl 0 rfl ?_
  refine la_aload F dl_19 rfl 3 rfl ?_
  refine la_len F dl_20 ?_
  refine la_iconst (v := nI 5) F dl_21 (by decide +kernel) ?_
  refine la_isub F dl_22 ?_
  refine la_gt F 989 dl_23 (by decide) (fun _ => kE) (fun h => kB ?_)
  have e : (nI L - nI 5).toInt = (L : Int) - (5 : Nat) := pk_sub_toInt (by omega) (by omega)
  have h1 : ¬ (nI L - nI 5).toInt < (nI i).toInt := fun q => h (Int32.lt_iff_toInt_lt.mpr q)
  rw [e, nI_toInt (by omega)] at h1
  omega
theorem la_end {p : Program} {l : Launch} {e : Env} {s : State} {m : MethodId} {below : List Frame} {meth : Method} {c : Code} {cf : gm_C} {adC adM : Nat → Nat} {b L : Nat} {xs : Nat → Int32} {C M : gm_M} {i : Nat} (F : gm_LF p s m #[Value.ref b] meth c cf adC adM b L xs) (hr : meth.sig.returnType = ret) (hlocks : meth.locks = false) : gm_L p l e s m #[Value.ref b] below meth c (lw_Z below #[Value.ref b] s) cf adC adM C M 989 [(3, .int (nI (i))), (2, .ref (adM 0)), (1, .ref (adC 0)), (0, .ref b)] [] := by
  refine la_iconst (v := 1) F dl_989 (by decide) ?_
  intro H locs ls hP hM hS hl
  exact va_forget (fun q hq => hS.2.2 q hq) (W.widen (k := 600000) (n := 7302250) (Nat.le_of_ble_eq_true rfl) (Nat.le_of_ble_eq_true rfl) (lw_ret F.1 F.2.1 hr hlocks dl_990))
theorem la_sw {p : Program} {l : Launch} {e : Env} {s : State} {m : MethodId} {below : List Frame} {meth : Method} {c : Code} {cf : gm_C} {adC adM : Nat → Nat} {b L : Nat} {xs : Nat → Int32} {C M : gm_M} {i k : Nat} (F : gm_LF p s m #[Value.ref b] meth c cf adC adM b L xs) (hi : i + 5 ≤ L) (hL : L < 2 ^ 31) (R : px_R C M) (kk : ∀ C' M' : gm_M, px_R C' M' → gm_L p l e s m #[Value.ref b] below meth c (lw_Z below #[Value.ref b] s) cf adC adM C' M' 983 [(3, .int (nI (i))), (2, .ref (adM 0)), (1, .ref (adC 0)), (0, .ref b)] []) (hk : k < 32) : gm_L p l e s m #[Value.ref b] below meth c (lw_Z below #[Value.ref b] s) cf adC adM C M 32 [(3, .int (nI (i))), (2, .ref (adM 0)), (1, .ref (adC 0)), (0, .ref b)] [.int (nI k)] := by
  rcases (show k = 0 ∨ k = 1 ∨ k = 2 ∨ k = 3 ∨ k = 4 ∨ k = 5 ∨ k = 6 ∨ k = 7 ∨ k = 8 ∨ k = 9 ∨ k = 10 ∨ k = 11 ∨ k = 12 ∨ k = 13 ∨ k = 14 ∨ k = 15 ∨ k = 16 ∨ k = 17 ∨ k = 18 ∨ k = 19 ∨ k = 20 ∨ k = 21 ∨ k = 22 ∨ k = 23 ∨ k = 24 ∨ k = 25 ∨ k = 26 ∨ k = 27 ∨ k = 28 ∨ k = 29 ∨ k = 30 ∨ k = 31 by omega) with rfl | rfl | rfl | rfl | rfl | rfl | rfl | rfl | rfl | rfl | rfl | rfl | rfl | rfl | rfl | rfl | rfl | rfl | rfl | rfl | rfl | rfl | rfl | rfl | rfl | rfl | rfl | rfl | rfl | rfl | rfl | rfl
  · exact la_tin F 164 dl_32 (by decide +kernel) (by decide +kernel) (off := 132) (by decide +kernel) (by decide) (cs_0 F hi hL R kk)
  · exact la_tin F 187 dl_32 (by decide +kernel) (by decide +kernel) (off := 155) (by decide +kernel) (by decide) (cs_1 F hi hL R kk)
  · exact la_tin F 200 dl_32 (by decide +kernel) (by decide +kernel) (off := 168) (by decide +kernel) (by decide) (cs_2 F hi hL R kk)
  · exact la_tin F 213 dl_32 (by decide +kernel) (by decide +kernel) (off := 181) (by decide +kernel) (by decide) (cs_3 F hi hL R kk)
  · exact la_tin F 236 dl_32 (by decide +kernel) (by decide +kernel) (off := 204) (by decide +kernel) (by decide) (cs_4 F hi hL R kk)
  · exact la_tin F 269 dl_32 (by decide +kernel) (by decide +kernel) (off := 237) (by decide +kernel) (by decide) (cs_5 F hi hL R kk)
  · exact la_tin F 302 dl_32 (by decide +kernel) (by decide +kernel) (off := 270) (by decide +kernel) (by decide) (cs_6 F hi hL R kk)
  · exact la_tin F 335 dl_32 (by decide +kernel) (by decide +kernel) (off := 303) (by decide +kernel) (by decide) (cs_7 F hi hL R kk)
  · exact la_tin F 368 dl_32 (by decide +kernel) (by decide +kernel) (off := 336) (by decide +kernel) (by decide) (cs_8 F hi hL R kk)
  · exact la_tin F 401 dl_32 (by decide +kernel) (by decide +kernel) (off := 369) (by decide +kernel) (by decide) (cs_9 F hi hL R kk)
  · exact la_tin F 434 dl_32 (by decide +kernel) (by decide +kernel) (off := 402) (by decide +kernel) (by decide) (cs_10 F hi hL R kk)
  · exact la_tin F 467 dl_32 (by decide +kernel) (by decide +kernel) (off := 435) (by decide +kernel) (by decide) (cs_11 F hi hL R kk)
  · exact la_tin F 520 dl_32 (by decide +kernel) (by decide +kernel) (off := 488) (by decide +kernel) (by decide) (cs_12 F hi hL R kk)
  · exact la_tin F 543 dl_32 (by decide +kernel) (by decide +kernel) (off := 511) (by decide +kernel) (by decide) (cs_13 F hi hL R kk)
  · exact la_tin F 586 dl_32 (by decide +kernel) (by decide +kernel) (off := 554) (by decide +kernel) (by decide) (cs_14 F hi hL R kk)
  · exact la_tin F 609 dl_32 (by decide +kernel) (by decide +kernel) (off := 577) (by decide +kernel) (by decide) (cs_15 F hi hL R kk)
  · exact la_tin F 622 dl_32 (by decide +kernel) (by decide +kernel) (off := 590) (by decide +kernel) (by decide) (cs_16 F hi hL R kk)
  · exact la_tin F 645 dl_32 (by decide +kernel) (by decide +kernel) (off := 613) (by decide +kernel) (by decide) (cs_17 F hi hL R kk)
  · exact la_tin F 678 dl_32 (by decide +kernel) (by decide +kernel) (off := 646) (by decide +kernel) (by decide) (cs_18 F hi hL R kk)
  · exact la_tin F 701 dl_32 (by decide +kernel) (by decide +kernel) (off := 669) (by decide +kernel) (by decide) (cs_19 F hi hL R kk)
  · exact la_tin F 724 dl_32 (by decide +kernel) (by decide +kernel) (off := 692) (by decide +kernel) (by decide) (cs_20 F hi hL R kk)
  · exact la_tin F 757 dl_32 (by decide +kernel) (by decide +kernel) (off := 725) (by decide +kernel) (by decide) (cs_21 F hi hL R kk)
  · exact la_tin F 806 dl_32 (by decide +kernel) (by decide +kernel) (off := 774) (by decide +kernel) (by decide) (cs_22 F hi hL R kk)
  · exact la_tin F 839 dl_32 (by decide +kernel) (by decide +kernel) (off := 807) (by decide +kernel) (by decide) (cs_23 F hi hL R kk)
  · exact la_tin F 888 dl_32 (by decide +kernel) (by decide +kernel) (off := 856) (by decide +kernel) (by decide) (cs_24 F hi hL R kk)
  · exact la_tin F 901 dl_32 (by decide +kernel) (by decide +kernel) (off := 869) (by decide +kernel) (by decide) (cs_25 F hi hL R kk)
  · exact la_tin F 914 dl_32 (by decide +kernel) (by decide +kernel) (off := 882) (by decide +kernel) (by decide) (cs_26 F hi hL R kk)
  · exact la_tin F 937 dl_32 (by decide +kernel) (by decide +kernel) (off := 905) (by decide +kernel) (by decide) (cs_27 F hi hL R kk)
  · exact la_tin F 960 dl_32 (by decide +kernel) (by decide +kernel) (off := 928) (by decide +kernel) (by decide) (cs_28 F hi hL R kk)
  · exact la_tout F 983 dl_32 (by decide +kernel) (by decide) (kk C M R)
  · exact la_tout F 983 dl_32 (by decide +kernel) (by decide) (kk C M R)
  · exact la_tout F 983 dl_32 (by decide +kernel) (by decide) (kk C M R)
theorem la_loop {p : Program} {l : Launch} {e : Env} {s : State} {m : MethodId} {below : List Frame} {meth : Method} {c : Code} {cf : gm_C} {adC adM : Nat → Nat} {b L : Nat} {xs : Nat → Int32} (F : gm_LF p s m #[Value.ref b] meth c cf adC adM b L xs) (hr : meth.sig.returnType = ret) (hlocks : meth.locks = false) (hL : L ≤ 2560) : ∀ (n i : Nat) (C M : gm_M), L - i ≤ n → i ≤ L → px_R C M → gm_L p l e s m #[Value.ref b] below meth c (lw_Z below #[Value.ref b] s) cf adC adM C M 18 [(3, .int (nI (i))), (2, .ref (adM 0)), (1, .ref (adC 0)), (0, .ref b)] []
  | 0, i, C, M, h1, h2, R => la_head F hL h2 (la_end F hr hlocks) (fun h => absurd h (by omega))
  | n + 1, i, C, M, h1, h2, R => la_head F hL h2 (la_end F hr hlocks) (fun h => by
    refine la_aload F dl_26 rfl 3 rfl ?_
    refine la_iload F dl_27 rfl 0 rfl ?_
    refine la_sld F (by omega) (by omega) dl_28 ?_
    refine la_bipush (v := 31) F dl_29 (by decide) ?_
    refine la_iand F dl_31 ?_
    obtain ⟨k, hk, e⟩ := la_and (xs i)
    rw [e]
    refine la_sw F h (by omega) R (fun C' M' R' => ?_) hk
    refine la_iinc (j := 0) (v := nI (i + 5)) (lv' := [(3, .int (nI (i + 5))), (2, .ref (adM 0)), (1, .ref (adC 0)), (0, .ref b)]) F dl_983 rfl (nI_add i 5).symm (by decide) rfl ?_
    refine la_goto F 18 dl_986 (by decide) ?_
    exact la_loop F hr hlocks hL n (i + 5) C' M' (by omega) h R')
