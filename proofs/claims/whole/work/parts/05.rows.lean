section GR
variable {p : Program} {l : Launch} {e : Env} {R : Room} {s : State} {m : MethodId} {args : Array Value} {below : List Frame} {meth : Method} {c : Code} {Q : State → Prop} {cf : gm_C} {ad : Nat → Nat} {sh : gm_H} {N nL : Nat} {S : gm_M} {pc : Nat} {lv : List (Nat × Value)} {st : List Value} {cc : ByteArray} {own : String}
theorem gm_iconst (C : gm_F p s m args meth c cf ad N cc nL own) {n : Int} {v : Int32} (hd : decode cc pc = .ok (.iconst n, 1)) (hv : Int32.ofInt n = v)
    (k : gm_G p l e R s m args below meth c Q cf ad sh N nL S (pc + 1) lv (.int v :: st)) : gm_G p l e R s m args below meth c Q cf ad sh N nL S pc lv (st) := fun H locs ls hP hD hS hl => lv_iconst C.1 C.2.1 hd hv (k H locs ls hP hD hS hl)
theorem gm_bipush (C : gm_F p s m args meth c cf ad N cc nL own) {n : Int} {v : Int32} (hd : decode cc pc = .ok (.bipush n, 2)) (hv : (Int8.ofInt n).toInt32 = v)
    (k : gm_G p l e R s m args below meth c Q cf ad sh N nL S (pc + 2) lv (.int v :: st)) : gm_G p l e R s m args below meth c Q cf ad sh N nL S pc lv (st) := fun H locs ls hP hD hS hl => lv_bipush C.1 C.2.1 hd hv (k H locs ls hP hD hS hl)
theorem gm_sipush (C : gm_F p s m args meth c cf ad N cc nL own) {n : Int} {v : Int32} (hd : decode cc pc = .ok (.sipush n, 3)) (hv : (Int16.ofInt n).toInt32 = v)
    (k : gm_G p l e R s m args below meth c Q cf ad sh N nL S (pc + 3) lv (.int v :: st)) : gm_G p l e R s m args below meth c Q cf ad sh N nL S pc lv (st) := fun H locs ls hP hD hS hl => lv_sipush C.1 C.2.1 hd hv (k H locs ls hP hD hS hl)
theorem gm_lconst (C : gm_F p s m args meth c cf ad N cc nL own) {n : Fin 2} {v : Int64} (hd : decode cc pc = .ok (.lconst n, 1)) (hv : Int64.ofNat (n : Nat) = v)
    (k : gm_G p l e R s m args below meth c Q cf ad sh N nL S (pc + 1) lv (.long v :: st)) : gm_G p l e R s m args below meth c Q cf ad sh N nL S pc lv (st) := fun H locs ls hP hD hS hl => lv_lconst C.1 C.2.1 hd hv (k H locs ls hP hD hS hl)
theorem gm_iload_n (C : gm_F p s m args meth c cf ad N cc nL own) {k : Fin 4} {i : Nat} {x : Int32} (hd : decode cc pc = .ok (.iload_n k, 1)) (hi : (k : Nat) = i) (j : Nat) (hj : lv[j]? = some (i, .int x))
    (k : gm_G p l e R s m args below meth c Q cf ad sh N nL S (pc + 1) lv (.int x :: st)) : gm_G p l e R s m args below meth c Q cf ad sh N nL S pc lv st := fun H locs ls hP hD hS hl => lv_iload_n C.1 C.2.1 hd hi (lv_at hl j hj) (k H locs ls hP hD hS hl)
theorem gm_iload (C : gm_F p s m args meth c cf ad N cc nL own) {i : Nat} {x : Int32} (hd : decode cc pc = .ok (.iload i, 2)) (j : Nat) (hj : lv[j]? = some (i, .int x))
    (k : gm_G p l e R s m args below meth c Q cf ad sh N nL S (pc + 2) lv (.int x :: st)) : gm_G p l e R s m args below meth c Q cf ad sh N nL S pc lv st := fun H locs ls hP hD hS hl => lv_iload C.1 C.2.1 hd (lv_at hl j hj) (k H locs ls hP hD hS hl)
theorem gm_lload_n (C : gm_F p s m args meth c cf ad N cc nL own) {k : Fin 4} {i : Nat} {x : Int64} (hd : decode cc pc = .ok (.lload_n k, 1)) (hi : (k : Nat) = i) (j : Nat) (hj : lv[j]? = some (i, .long x))
    (k : gm_G p l e R s m args below meth c Q cf ad sh N nL S (pc + 1) lv (.long x :: st)) : gm_G p l e R s m args below meth c Q cf ad sh N nL S pc lv st := fun H locs ls hP hD hS hl => lv_lload_n C.1 C.2.1 hd hi (lv_at hl j hj) (k H locs ls hP hD hS hl)
theorem gm_lload (C : gm_F p s m args meth c cf ad N cc nL own) {i : Nat} {x : Int64} (hd : decode cc pc = .ok (.lload i, 2)) (j : Nat) (hj : lv[j]? = some (i, .long x))
    (k : gm_G p l e R s m args below meth c Q cf ad sh N nL S (pc + 2) lv (.long x :: st)) : gm_G p l e R s m args below meth c Q cf ad sh N nL S pc lv st := fun H locs ls hP hD hS hl => lv_lload C.1 C.2.1 hd (lv_at hl j hj) (k H locs ls hP hD hS hl)
theorem gm_aload_n (C : gm_F p s m args meth c cf ad N cc nL own) {k : Fin 4} {i : Nat} {x : Nat} (hd : decode cc pc = .ok (.aload_n k, 1)) (hi : (k : Nat) = i) (j : Nat) (hj : lv[j]? = some (i, .ref x))
    (k : gm_G p l e R s m args below meth c Q cf ad sh N nL S (pc + 1) lv (.ref x :: st)) : gm_G p l e R s m args below meth c Q cf ad sh N nL S pc lv st := fun H locs ls hP hD hS hl => lv_aload_n C.1 C.2.1 hd hi (lv_at hl j hj) (k H locs ls hP hD hS hl)
theorem gm_aload (C : gm_F p s m args meth c cf ad N cc nL own) {i : Nat} {x : Nat} (hd : decode cc pc = .ok (.aload i, 2)) (j : Nat) (hj : lv[j]? = some (i, .ref x))
    (k : gm_G p l e R s m args below meth c Q cf ad sh N nL S (pc + 2) lv (.ref x :: st)) : gm_G p l e R s m args below meth c Q cf ad sh N nL S pc lv st := fun H locs ls hP hD hS hl => lv_aload C.1 C.2.1 hd (lv_at hl j hj) (k H locs ls hP hD hS hl)
theorem gm_istore_n (C : gm_F p s m args meth c cf ad N cc nL own) {k : Fin 4} {i : Nat} {x : Int32} {lv' : List (Nat × Value)} (hd : decode cc pc = .ok (.istore_n k, 1)) (hi : (k : Nat) = i) (hn : i < nL) (hl' : (i, Value.int x) :: lv.filter (fun q => !(q.1 == i) && !(q.1 + 1 == i && q.2.category == 2)) = lv')
    (k : gm_G p l e R s m args below meth c Q cf ad sh N nL S (pc + 1) lv' st) : gm_G p l e R s m args below meth c Q cf ad sh N nL S pc lv (.int x :: st) := fun H locs ls hP hD hS hl => lv_istore_n C.1 C.2.1 hd hi hl hn hl' (fun ls' hls => k H locs ls' hP hD hS hls)
theorem gm_istore (C : gm_F p s m args meth c cf ad N cc nL own) {i : Nat} {x : Int32} {lv' : List (Nat × Value)} (hd : decode cc pc = .ok (.istore i, 2)) (hn : i < nL) (hl' : (i, Value.int x) :: lv.filter (fun q => !(q.1 == i) && !(q.1 + 1 == i && q.2.category == 2)) = lv')
    (k : gm_G p l e R s m args below meth c Q cf ad sh N nL S (pc + 2) lv' st) : gm_G p l e R s m args below meth c Q cf ad sh N nL S pc lv (.int x :: st) := fun H locs ls hP hD hS hl => lv_istore C.1 C.2.1 hd hl hn hl' (fun ls' hls => k H locs ls' hP hD hS hls)
theorem gm_lstore_n (C : gm_F p s m args meth c cf ad N cc nL own) {k : Fin 4} {i : Nat} {x : Int64} {lv' : List (Nat × Value)} (hd : decode cc pc = .ok (.lstore_n k, 1)) (hi : (k : Nat) = i) (hn : i + 1 < nL) (hl' : (i, Value.long x) :: lv.filter (fun q => !(q.1 == i) && (!(q.1 == i + 1) && !(q.1 + 1 == i && q.2.category == 2))) = lv')
    (k : gm_G p l e R s m args below meth c Q cf ad sh N nL S (pc + 1) lv' st) : gm_G p l e R s m args below meth c Q cf ad sh N nL S pc lv (.long x :: st) := fun H locs ls hP hD hS hl => lv_lstore_n C.1 C.2.1 hd hi hl hn hl' (fun ls' hls => k H locs ls' hP hD hS hls)
theorem gm_lstore (C : gm_F p s m args meth c cf ad N cc nL own) {i : Nat} {x : Int64} {lv' : List (Nat × Value)} (hd : decode cc pc = .ok (.lstore i, 2)) (hn : i + 1 < nL) (hl' : (i, Value.long x) :: lv.filter (fun q => !(q.1 == i) && (!(q.1 == i + 1) && !(q.1 + 1 == i && q.2.category == 2))) = lv')
    (k : gm_G p l e R s m args below meth c Q cf ad sh N nL S (pc + 2) lv' st) : gm_G p l e R s m args below meth c Q cf ad sh N nL S pc lv (.long x :: st) := fun H locs ls hP hD hS hl => lv_lstore C.1 C.2.1 hd hl hn hl' (fun ls' hls => k H locs ls' hP hD hS hls)
theorem gm_astore_n (C : gm_F p s m args meth c cf ad N cc nL own) {k : Fin 4} {i : Nat} {x : Nat} {lv' : List (Nat × Value)} (hd : decode cc pc = .ok (.astore_n k, 1)) (hi : (k : Nat) = i) (hn : i < nL) (hl' : (i, Value.ref x) :: lv.filter (fun q => !(q.1 == i) && !(q.1 + 1 == i && q.2.category == 2)) = lv')
    (k : gm_G p l e R s m args below meth c Q cf ad sh N nL S (pc + 1) lv' st) : gm_G p l e R s m args below meth c Q cf ad sh N nL S pc lv (.ref x :: st) := fun H locs ls hP hD hS hl => lv_astore_n C.1 C.2.1 hd hi hl hn hl' (fun ls' hls => k H locs ls' hP hD hS hls)
theorem gm_astore (C : gm_F p s m args meth c cf ad N cc nL own) {i : Nat} {x : Nat} {lv' : List (Nat × Value)} (hd : decode cc pc = .ok (.astore i, 2)) (hn : i < nL) (hl' : (i, Value.ref x) :: lv.filter (fun q => !(q.1 == i) && !(q.1 + 1 == i && q.2.category == 2)) = lv')
    (k : gm_G p l e R s m args below meth c Q cf ad sh N nL S (pc + 2) lv' st) : gm_G p l e R s m args below meth c Q cf ad sh N nL S pc lv (.ref x :: st) := fun H locs ls hP hD hS hl => lv_astore C.1 C.2.1 hd hl hn hl' (fun ls' hls => k H locs ls' hP hD hS hls)
theorem gm_iinc (C : gm_F p s m args meth c cf ad N cc nL own) {i j : Nat} {n : Int} {x v : Int32} {lv' : List (Nat × Value)} (hd : decode cc pc = .ok (.iinc i n, 3)) (hj : lv[j]? = some (i, .int x)) (hv : v = x + Int32.ofInt n) (hn : i < nL) (hl' : (i, Value.int v) :: lv.filter (fun q => !(q.1 == i) && !(q.1 + 1 == i && q.2.category == 2)) = lv')
    (k : gm_G p l e R s m args below meth c Q cf ad sh N nL S (pc + 3) lv' st) : gm_G p l e R s m args below meth c Q cf ad sh N nL S pc lv st := fun H locs ls hP hD hS hl => lv_iinc C.1 C.2.1 hd hl hj hv.symm hn hl' (fun ls' hls => k H locs ls' hP hD hS hls)
theorem gm_iadd (C : gm_F p s m args meth c cf ad N cc nL own) {x y : Int32} (hd : decode cc pc = .ok (.iadd, 1))
    (k : gm_G p l e R s m args below meth c Q cf ad sh N nL S (pc + 1) lv (.int (x + y) :: st)) : gm_G p l e R s m args below meth c Q cf ad sh N nL S pc lv (.int y :: .int x :: st) := fun H locs ls hP hD hS hl => lv_iadd C.1 C.2.1 hd  (k H locs ls hP hD hS hl)
theorem gm_isub (C : gm_F p s m args meth c cf ad N cc nL own) {x y : Int32} (hd : decode cc pc = .ok (.isub, 1))
    (k : gm_G p l e R s m args below meth c Q cf ad sh N nL S (pc + 1) lv (.int (x - y) :: st)) : gm_G p l e R s m args below meth c Q cf ad sh N nL S pc lv (.int y :: .int x :: st) := fun H locs ls hP hD hS hl => lv_isub C.1 C.2.1 hd  (k H locs ls hP hD hS hl)
theorem gm_imul (C : gm_F p s m args meth c cf ad N cc nL own) {x y : Int32} (hd : decode cc pc = .ok (.imul, 1))
    (k : gm_G p l e R s m args below meth c Q cf ad sh N nL S (pc + 1) lv (.int (x * y) :: st)) : gm_G p l e R s m args below meth c Q cf ad sh N nL S pc lv (.int y :: .int x :: st) := fun H locs ls hP hD hS hl => lv_imul C.1 C.2.1 hd  (k H locs ls hP hD hS hl)
theorem gm_iand (C : gm_F p s m args meth c cf ad N cc nL own) {x y : Int32} (hd : decode cc pc = .ok (.iand, 1))
    (k : gm_G p l e R s m args below meth c Q cf ad sh N nL S (pc + 1) lv (.int (x &&& y) :: st)) : gm_G p l e R s m args below meth c Q cf ad sh N nL S pc lv (.int y :: .int x :: st) := fun H locs ls hP hD hS hl => lv_iand C.1 C.2.1 hd  (k H locs ls hP hD hS hl)
theorem gm_ior (C : gm_F p s m args meth c cf ad N cc nL own) {x y : Int32} (hd : decode cc pc = .ok (.ior, 1))
    (k : gm_G p l e R s m args below meth c Q cf ad sh N nL S (pc + 1) lv (.int (x ||| y) :: st)) : gm_G p l e R s m args below meth c Q cf ad sh N nL S pc lv (.int y :: .int x :: st) := fun H locs ls hP hD hS hl => lv_ior C.1 C.2.1 hd  (k H locs ls hP hD hS hl)
theorem gm_idiv (C : gm_F p s m args meth c cf ad N cc nL own) {x y : Int32} (hd : decode cc pc = .ok (.idiv, 1)) (hne : ¬ y = 0)
    (k : gm_G p l e R s m args below meth c Q cf ad sh N nL S (pc + 1) lv (.int (x / y) :: st)) : gm_G p l e R s m args below meth c Q cf ad sh N nL S pc lv (.int y :: .int x :: st) := fun H locs ls hP hD hS hl => lv_idiv C.1 C.2.1 hd hne (k H locs ls hP hD hS hl)
theorem gm_irem (C : gm_F p s m args meth c cf ad N cc nL own) {x y : Int32} (hd : decode cc pc = .ok (.irem, 1)) (hne : ¬ y = 0)
    (k : gm_G p l e R s m args below meth c Q cf ad sh N nL S (pc + 1) lv (.int (x - x / y * y) :: st)) : gm_G p l e R s m args below meth c Q cf ad sh N nL S pc lv (.int y :: .int x :: st) := fun H locs ls hP hD hS hl => lv_irem C.1 C.2.1 hd hne (k H locs ls hP hD hS hl)
theorem gm_ineg (C : gm_F p s m args meth c cf ad N cc nL own) {x : Int32} (hd : decode cc pc = .ok (.ineg, 1))
    (k : gm_G p l e R s m args below meth c Q cf ad sh N nL S (pc + 1) lv (.int (0 - x) :: st)) : gm_G p l e R s m args below meth c Q cf ad sh N nL S pc lv (.int x :: st) := fun H locs ls hP hD hS hl => lv_ineg C.1 C.2.1 hd  (k H locs ls hP hD hS hl)
theorem gm_ladd (C : gm_F p s m args meth c cf ad N cc nL own) {x y : Int64} (hd : decode cc pc = .ok (.ladd, 1))
    (k : gm_G p l e R s m args below meth c Q cf ad sh N nL S (pc + 1) lv (.long (x + y) :: st)) : gm_G p l e R s m args below meth c Q cf ad sh N nL S pc lv (.long y :: .long x :: st) := fun H locs ls hP hD hS hl => lv_ladd C.1 C.2.1 hd  (k H locs ls hP hD hS hl)
theorem gm_lsub (C : gm_F p s m args meth c cf ad N cc nL own) {x y : Int64} (hd : decode cc pc = .ok (.lsub, 1))
    (k : gm_G p l e R s m args below meth c Q cf ad sh N nL S (pc + 1) lv (.long (x - y) :: st)) : gm_G p l e R s m args below meth c Q cf ad sh N nL S pc lv (.long y :: .long x :: st) := fun H locs ls hP hD hS hl => lv_lsub C.1 C.2.1 hd  (k H locs ls hP hD hS hl)
theorem gm_lmul (C : gm_F p s m args meth c cf ad N cc nL own) {x y : Int64} (hd : decode cc pc = .ok (.lmul, 1))
    (k : gm_G p l e R s m args below meth c Q cf ad sh N nL S (pc + 1) lv (.long (x * y) :: st)) : gm_G p l e R s m args below meth c Q cf ad sh N nL S pc lv (.long y :: .long x :: st) := fun H locs ls hP hD hS hl => lv_lmul C.1 C.2.1 hd  (k H locs ls hP hD hS hl)
theorem gm_land (C : gm_F p s m args meth c cf ad N cc nL own) {x y : Int64} (hd : decode cc pc = .ok (.land, 1))
    (k : gm_G p l e R s m args below meth c Q cf ad sh N nL S (pc + 1) lv (.long (x &&& y) :: st)) : gm_G p l e R s m args below meth c Q cf ad sh N nL S pc lv (.long y :: .long x :: st) := fun H locs ls hP hD hS hl => lv_land C.1 C.2.1 hd  (k H locs ls hP hD hS hl)
theorem gm_lor (C : gm_F p s m args meth c cf ad N cc nL own) {x y : Int64} (hd : decode cc pc = .ok (.lor, 1))
    (k : gm_G p l e R s m args below meth c Q cf ad sh N nL S (pc + 1) lv (.long (x ||| y) :: st)) : gm_G p l e R s m args below meth c Q cf ad sh N nL S pc lv (.long y :: .long x :: st) := fun H locs ls hP hD hS hl => lv_lor C.1 C.2.1 hd  (k H locs ls hP hD hS hl)
theorem gm_ldiv (C : gm_F p s m args meth c cf ad N cc nL own) {x y : Int64} (hd : decode cc pc = .ok (.ldiv, 1)) (hne : ¬ y = 0)
    (k : gm_G p l e R s m args below meth c Q cf ad sh N nL S (pc + 1) lv (.long (x / y) :: st)) : gm_G p l e R s m args below meth c Q cf ad sh N nL S pc lv (.long y :: .long x :: st) := fun H locs ls hP hD hS hl => lv_ldiv C.1 C.2.1 hd hne (k H locs ls hP hD hS hl)
theorem gm_lrem (C : gm_F p s m args meth c cf ad N cc nL own) {x y : Int64} (hd : decode cc pc = .ok (.lrem, 1)) (hne : ¬ y = 0)
    (k : gm_G p l e R s m args below meth c Q cf ad sh N nL S (pc + 1) lv (.long (x - x / y * y) :: st)) : gm_G p l e R s m args below meth c Q cf ad sh N nL S pc lv (.long y :: .long x :: st) := fun H locs ls hP hD hS hl => lv_lrem C.1 C.2.1 hd hne (k H locs ls hP hD hS hl)
theorem gm_ishl (C : gm_F p s m args meth c cf ad N cc nL own) {x y : Int32} (hd : decode cc pc = .ok (.ishl, 1))
    (k : gm_G p l e R s m args below meth c Q cf ad sh N nL S (pc + 1) lv (.int (x <<< (y &&& 31)) :: st)) : gm_G p l e R s m args below meth c Q cf ad sh N nL S pc lv (.int y :: .int x :: st) := fun H locs ls hP hD hS hl => lv_ishl C.1 C.2.1 hd  (k H locs ls hP hD hS hl)
theorem gm_ishr (C : gm_F p s m args meth c cf ad N cc nL own) {x y : Int32} (hd : decode cc pc = .ok (.ishr, 1))
    (k : gm_G p l e R s m args below meth c Q cf ad sh N nL S (pc + 1) lv (.int (x >>> (y &&& 31)) :: st)) : gm_G p l e R s m args below meth c Q cf ad sh N nL S pc lv (.int y :: .int x :: st) := fun H locs ls hP hD hS hl => lv_ishr C.1 C.2.1 hd  (k H locs ls hP hD hS hl)
theorem gm_lushr (C : gm_F p s m args meth c cf ad N cc nL own) {x v : Int64} {y : Int32} (hd : decode cc pc = .ok (.lushr, 1)) (hv : (x.toUInt64 >>> (y.toInt64.toUInt64 &&& Int64.toUInt64 63)).toInt64 = v)
    (k : gm_G p l e R s m args below meth c Q cf ad sh N nL S (pc + 1) lv (.long v :: st)) : gm_G p l e R s m args below meth c Q cf ad sh N nL S pc lv (.int y :: .long x :: st) := fun H locs ls hP hD hS hl => lv_lushr C.1 C.2.1 hd hv (k H locs ls hP hD hS hl)
theorem gm_lshl (C : gm_F p s m args meth c cf ad N cc nL own) {x v : Int64} {y : Int32} (hd : decode cc pc = .ok (.lshl, 1)) (hv : x <<< (y.toInt64 &&& 63) = v)
    (k : gm_G p l e R s m args below meth c Q cf ad sh N nL S (pc + 1) lv (.long v :: st)) : gm_G p l e R s m args below meth c Q cf ad sh N nL S pc lv (.int y :: .long x :: st) := fun H locs ls hP hD hS hl => lv_lshl C.1 C.2.1 hd hv (k H locs ls hP hD hS hl)
theorem gm_lshr (C : gm_F p s m args meth c cf ad N cc nL own) {x v : Int64} {y : Int32} (hd : decode cc pc = .ok (.lshr, 1)) (hv : x >>> (y.toInt64 &&& 63) = v)
    (k : gm_G p l e R s m args below meth c Q cf ad sh N nL S (pc + 1) lv (.long v :: st)) : gm_G p l e R s m args below meth c Q cf ad sh N nL S pc lv (.int y :: .long x :: st) := fun H locs ls hP hD hS hl => lv_lshr C.1 C.2.1 hd hv (k H locs ls hP hD hS hl)
theorem gm_i2l (C : gm_F p s m args meth c cf ad N cc nL own) {x : Int32} {v : Int64} (hd : decode cc pc = .ok (.i2l, 1)) (hv : x.toInt64 = v)
    (k : gm_G p l e R s m args below meth c Q cf ad sh N nL S (pc + 1) lv (.long v :: st)) : gm_G p l e R s m args below meth c Q cf ad sh N nL S pc lv (.int x :: st) := fun H locs ls hP hD hS hl => lv_i2l C.1 C.2.1 hd hv (k H locs ls hP hD hS hl)
theorem gm_l2i (C : gm_F p s m args meth c cf ad N cc nL own) {x : Int64} {v : Int32} (hd : decode cc pc = .ok (.l2i, 1)) (hv : x.toInt32 = v)
    (k : gm_G p l e R s m args below meth c Q cf ad sh N nL S (pc + 1) lv (.int v :: st)) : gm_G p l e R s m args below meth c Q cf ad sh N nL S pc lv (.long x :: st) := fun H locs ls hP hD hS hl => lv_l2i C.1 C.2.1 hd hv (k H locs ls hP hD hS hl)
theorem gm_i2c (C : gm_F p s m args meth c cf ad N cc nL own) {x : Int32} {v : Int32} (hd : decode cc pc = .ok (.i2c, 1)) (hv : (x.toUInt32 % 65536).toInt32 = v)
    (k : gm_G p l e R s m args below meth c Q cf ad sh N nL S (pc + 1) lv (.int v :: st)) : gm_G p l e R s m args below meth c Q cf ad sh N nL S pc lv (.int x :: st) := fun H locs ls hP hD hS hl => lv_i2c C.1 C.2.1 hd hv (k H locs ls hP hD hS hl)
theorem gm_lcmp (C : gm_F p s m args meth c cf ad N cc nL own) {x y : Int64} (hd : decode cc pc = .ok (.lcmp, 1))
    (k : gm_G p l e R s m args below meth c Q cf ad sh N nL S (pc + 1) lv (.int (lg_cmp x y) :: st)) : gm_G p l e R s m args below meth c Q cf ad sh N nL S pc lv (.long y :: .long x :: st) := fun H locs ls hP hD hS hl => W.lcmp C.1 C.2.1 hd  (k H locs ls hP hD hS hl)
theorem gm_dup (C : gm_F p s m args meth c cf ad N cc nL own) {va : Value} (hd : decode cc pc = .ok (.dup, 1)) (hva : va.category = 1)
    (k : gm_G p l e R s m args below meth c Q cf ad sh N nL S (pc + 1) lv (va :: va :: st)) : gm_G p l e R s m args below meth c Q cf ad sh N nL S pc lv (va :: st) := fun H locs ls hP hD hS hl => lv_dup C.1 C.2.1 hd hva (k H locs ls hP hD hS hl)
theorem gm_pop (C : gm_F p s m args meth c cf ad N cc nL own) {va : Value} (hd : decode cc pc = .ok (.pop, 1)) (hva : va.category = 1)
    (k : gm_G p l e R s m args below meth c Q cf ad sh N nL S (pc + 1) lv (st)) : gm_G p l e R s m args below meth c Q cf ad sh N nL S pc lv (va :: st) := fun H locs ls hP hD hS hl => lv_pop C.1 C.2.1 hd hva (k H locs ls hP hD hS hl)
theorem gm_dup2_11 (C : gm_F p s m args meth c cf ad N cc nL own) {va vb : Value} (hd : decode cc pc = .ok (.dup2, 1)) (hva : va.category = 1) (hvb : vb.category = 1)
    (k : gm_G p l e R s m args below meth c Q cf ad sh N nL S (pc + 1) lv (va :: vb :: va :: vb :: st)) : gm_G p l e R s m args below meth c Q cf ad sh N nL S pc lv (va :: vb :: st) := fun H locs ls hP hD hS hl => lv_dup2_11 C.1 C.2.1 hd hva hvb (k H locs ls hP hD hS hl)
theorem gm_dup2_2 (C : gm_F p s m args meth c cf ad N cc nL own) {va : Value} (hd : decode cc pc = .ok (.dup2, 1)) (hva : va.category = 2)
    (k : gm_G p l e R s m args below meth c Q cf ad sh N nL S (pc + 1) lv (va :: va :: st)) : gm_G p l e R s m args below meth c Q cf ad sh N nL S pc lv (va :: st) := fun H locs ls hP hD hS hl => lv_dup2_2 C.1 C.2.1 hd hva (k H locs ls hP hD hS hl)
theorem gm_topi {x y : Int32} (h : y = x) (k : gm_G p l e R s m args below meth c Q cf ad sh N nL S pc lv (.int y :: st)) : gm_G p l e R s m args below meth c Q cf ad sh N nL S pc lv (.int x :: st) := h ▸ k
theorem gm_topl {x y : Int64} (h : y = x) (k : gm_G p l e R s m args below meth c Q cf ad sh N nL S pc lv (.long y :: st)) : gm_G p l e R s m args below meth c Q cf ad sh N nL S pc lv (.long x :: st) := h ▸ k
theorem gm_if_eq (C : gm_F p s m args meth c cf ad N cc nL own) {x : Int32} {off : Int} (tgt : Nat) (hd : decode cc pc = .ok (.ifCond .eq off, 3)) (ht : (pc : Int) + off = (tgt : Int))
    (kt : x = 0 → gm_G p l e R s m args below meth c Q cf ad sh N nL S tgt lv st) (kf : ¬ x = 0 → gm_G p l e R s m args below meth c Q cf ad sh N nL S (pc + 3) lv st) : gm_G p l e R s m args below meth c Q cf ad sh N nL S pc lv (.int x :: st) := fun H locs ls hP hD hS hl => lv_if_eq C.1 C.2.1 hd ht (fun h => kt h H locs ls hP hD hS hl) (fun h => kf h H locs ls hP hD hS hl)
theorem gm_icmp_eq (C : gm_F p s m args meth c cf ad N cc nL own) {x y : Int32} {off : Int} (tgt : Nat) (hd : decode cc pc = .ok (.if_icmp .eq off, 3)) (ht : (pc : Int) + off = (tgt : Int))
    (kt : x = y → gm_G p l e R s m args below meth c Q cf ad sh N nL S tgt lv st) (kf : ¬ x = y → gm_G p l e R s m args below meth c Q cf ad sh N nL S (pc + 3) lv st) : gm_G p l e R s m args below meth c Q cf ad sh N nL S pc lv (.int y :: .int x :: st) := fun H locs ls hP hD hS hl => lv_icmp_eq C.1 C.2.1 hd ht (fun h => kt h H locs ls hP hD hS hl) (fun h => kf h H locs ls hP hD hS hl)
theorem gm_if_lt (C : gm_F p s m args meth c cf ad N cc nL own) {x : Int32} {off : Int} (tgt : Nat) (hd : decode cc pc = .ok (.ifCond .lt off, 3)) (ht : (pc : Int) + off = (tgt : Int))
    (kt : x < 0 → gm_G p l e R s m args below meth c Q cf ad sh N nL S tgt lv st) (kf : ¬ x < 0 → gm_G p l e R s m args below meth c Q cf ad sh N nL S (pc + 3) lv st) : gm_G p l e R s m args below meth c Q cf ad sh N nL S pc lv (.int x :: st) := fun H locs ls hP hD hS hl => lv_if_lt C.1 C.2.1 hd ht (fun h => kt h H locs ls hP hD hS hl) (fun h => kf h H locs ls hP hD hS hl)
theorem gm_icmp_lt (C : gm_F p s m args meth c cf ad N cc nL own) {x y : Int32} {off : Int} (tgt : Nat) (hd : decode cc pc = .ok (.if_icmp .lt off, 3)) (ht : (pc : Int) + off = (tgt : Int))
    (kt : x < y → gm_G p l e R s m args below meth c Q cf ad sh N nL S tgt lv st) (kf : ¬ x < y → gm_G p l e R s m args below meth c Q cf ad sh N nL S (pc + 3) lv st) : gm_G p l e R s m args below meth c Q cf ad sh N nL S pc lv (.int y :: .int x :: st) := fun H locs ls hP hD hS hl => lv_icmp_lt C.1 C.2.1 hd ht (fun h => kt h H locs ls hP hD hS hl) (fun h => kf h H locs ls hP hD hS hl)
theorem gm_if_ge (C : gm_F p s m args meth c cf ad N cc nL own) {x : Int32} {off : Int} (tgt : Nat) (hd : decode cc pc = .ok (.ifCond .ge off, 3)) (ht : (pc : Int) + off = (tgt : Int))
    (kt : 0 ≤ x → gm_G p l e R s m args below meth c Q cf ad sh N nL S tgt lv st) (kf : ¬ 0 ≤ x → gm_G p l e R s m args below meth c Q cf ad sh N nL S (pc + 3) lv st) : gm_G p l e R s m args below meth c Q cf ad sh N nL S pc lv (.int x :: st) := fun H locs ls hP hD hS hl => lv_if_ge C.1 C.2.1 hd ht (fun h => kt h H locs ls hP hD hS hl) (fun h => kf h H locs ls hP hD hS hl)
theorem gm_icmp_ge (C : gm_F p s m args meth c cf ad N cc nL own) {x y : Int32} {off : Int} (tgt : Nat) (hd : decode cc pc = .ok (.if_icmp .ge off, 3)) (ht : (pc : Int) + off = (tgt : Int))
    (kt : y ≤ x → gm_G p l e R s m args below meth c Q cf ad sh N nL S tgt lv st) (kf : ¬ y ≤ x → gm_G p l e R s m args below meth c Q cf ad sh N nL S (pc + 3) lv st) : gm_G p l e R s m args below meth c Q cf ad sh N nL S pc lv (.int y :: .int x :: st) := fun H locs ls hP hD hS hl => lv_icmp_ge C.1 C.2.1 hd ht (fun h => kt h H locs ls hP hD hS hl) (fun h => kf h H locs ls hP hD hS hl)
theorem gm_if_gt (C : gm_F p s m args meth c cf ad N cc nL own) {x : Int32} {off : Int} (tgt : Nat) (hd : decode cc pc = .ok (.ifCond .gt off, 3)) (ht : (pc : Int) + off = (tgt : Int))
    (kt : 0 < x → gm_G p l e R s m args below meth c Q cf ad sh N nL S tgt lv st) (kf : ¬ 0 < x → gm_G p l e R s m args below meth c Q cf ad sh N nL S (pc + 3) lv st) : gm_G p l e R s m args below meth c Q cf ad sh N nL S pc lv (.int x :: st) := fun H locs ls hP hD hS hl => lv_if_gt C.1 C.2.1 hd ht (fun h => kt h H locs ls hP hD hS hl) (fun h => kf h H locs ls hP hD hS hl)
theorem gm_icmp_gt (C : gm_F p s m args meth c cf ad N cc nL own) {x y : Int32} {off : Int} (tgt : Nat) (hd : decode cc pc = .ok (.if_icmp .gt off, 3)) (ht : (pc : Int) + off = (tgt : Int))
    (kt : y < x → gm_G p l e R s m args below meth c Q cf ad sh N nL S tgt lv st) (kf : ¬ y < x → gm_G p l e R s m args below meth c Q cf ad sh N nL S (pc + 3) lv st) : gm_G p l e R s m args below meth c Q cf ad sh N nL S pc lv (.int y :: .int x :: st) := fun H locs ls hP hD hS hl => lv_icmp_gt C.1 C.2.1 hd ht (fun h => kt h H locs ls hP hD hS hl) (fun h => kf h H locs ls hP hD hS hl)
theorem gm_if_le (C : gm_F p s m args meth c cf ad N cc nL own) {x : Int32} {off : Int} (tgt : Nat) (hd : decode cc pc = .ok (.ifCond .le off, 3)) (ht : (pc : Int) + off = (tgt : Int))
    (kt : x ≤ 0 → gm_G p l e R s m args below meth c Q cf ad sh N nL S tgt lv st) (kf : ¬ x ≤ 0 → gm_G p l e R s m args below meth c Q cf ad sh N nL S (pc + 3) lv st) : gm_G p l e R s m args below meth c Q cf ad sh N nL S pc lv (.int x :: st) := fun H locs ls hP hD hS hl => lv_if_le C.1 C.2.1 hd ht (fun h => kt h H locs ls hP hD hS hl) (fun h => kf h H locs ls hP hD hS hl)
theorem gm_icmp_le (C : gm_F p s m args meth c cf ad N cc nL own) {x y : Int32} {off : Int} (tgt : Nat) (hd : decode cc pc = .ok (.if_icmp .le off, 3)) (ht : (pc : Int) + off = (tgt : Int))
    (kt : x ≤ y → gm_G p l e R s m args below meth c Q cf ad sh N nL S tgt lv st) (kf : ¬ x ≤ y → gm_G p l e R s m args below meth c Q cf ad sh N nL S (pc + 3) lv st) : gm_G p l e R s m args below meth c Q cf ad sh N nL S pc lv (.int y :: .int x :: st) := fun H locs ls hP hD hS hl => lv_icmp_le C.1 C.2.1 hd ht (fun h => kt h H locs ls hP hD hS hl) (fun h => kf h H locs ls hP hD hS hl)
theorem gm_if_ne (C : gm_F p s m args meth c cf ad N cc nL own) {x : Int32} {off : Int} (tgt : Nat) (hd : decode cc pc = .ok (.ifCond .ne off, 3)) (ht : (pc : Int) + off = (tgt : Int))
    (kt : ¬ x = 0 → gm_G p l e R s m args below meth c Q cf ad sh N nL S tgt lv st) (kf : x = 0 → gm_G p l e R s m args below meth c Q cf ad sh N nL S (pc + 3) lv st) : gm_G p l e R s m args below meth c Q cf ad sh N nL S pc lv (.int x :: st) := fun H locs ls hP hD hS hl => lv_if_ne C.1 C.2.1 hd ht (fun h => kt h H locs ls hP hD hS hl) (fun h => kf h H locs ls hP hD hS hl)
theorem gm_icmp_ne (C : gm_F p s m args meth c cf ad N cc nL own) {x y : Int32} {off : Int} (tgt : Nat) (hd : decode cc pc = .ok (.if_icmp .ne off, 3)) (ht : (pc : Int) + off = (tgt : Int))
    (kt : ¬ x = y → gm_G p l e R s m args below meth c Q cf ad sh N nL S tgt lv st) (kf : x = y → gm_G p l e R s m args below meth c Q cf ad sh N nL S (pc + 3) lv st) : gm_G p l e R s m args below meth c Q cf ad sh N nL S pc lv (.int y :: .int x :: st) := fun H locs ls hP hD hS hl => lv_icmp_ne C.1 C.2.1 hd ht (fun h => kt h H locs ls hP hD hS hl) (fun h => kf h H locs ls hP hD hS hl)
theorem gm_goto (C : gm_F p s m args meth c cf ad N cc nL own) {off : Int} (tgt : Nat) (hd : decode cc pc = .ok (.goto off, 3)) (ht : (pc : Int) + off = (tgt : Int)) (k : gm_G p l e R s m args below meth c Q cf ad sh N nL S tgt lv st) : gm_G p l e R s m args below meth c Q cf ad sh N nL S pc lv st := fun H locs ls hP hD hS hl => lv_goto C.1 C.2.1 hd ht (k H locs ls hP hD hS hl)
theorem gm_tableIn (C : gm_F p s m args meth c cf ad N cc nL own) {dflt lo hi : Int} {offs : Array Int} {len : Nat} {x : Int32} {off : Int} (tgt : Nat) (hd : decode cc pc = .ok (.tableswitch dflt lo hi offs, len)) (h1 : ¬ x.toInt < lo) (h2 : ¬ hi < x.toInt) (ho : offs[(x.toInt - lo).toNat]? = some off) (ht : (pc : Int) + off = (tgt : Int)) (k : gm_G p l e R s m args below meth c Q cf ad sh N nL S tgt lv st) : gm_G p l e R s m args below meth c Q cf ad sh N nL S pc lv (.int x :: st) := fun H locs ls hP hD hS hl => lv_tableIn C.1 C.2.1 hd h1 h2 ho ht (k H locs ls hP hD hS hl)
theorem gm_tableOut (C : gm_F p s m args meth c cf ad N cc nL own) {dflt lo hi : Int} {offs : Array Int} {len : Nat} {x : Int32} (tgt : Nat) (hd : decode cc pc = .ok (.tableswitch dflt lo hi offs, len)) (h : x.toInt < lo ∨ hi < x.toInt) (ht : (pc : Int) + dflt = (tgt : Int)) (k : gm_G p l e R s m args below meth c Q cf ad sh N nL S tgt lv st) : gm_G p l e R s m args below meth c Q cf ad sh N nL S pc lv (.int x :: st) := fun H locs ls hP hD hS hl => lv_tableOut C.1 C.2.1 hd h ht (k H locs ls hP hD hS hl)
theorem gm_lookup (C : gm_F p s m args meth c cf ad N cc nL own) {dflt : Int} {ps : Array (Int × Int)} {len : Nat} {x : Int32} {off : Int} (tgt : Nat) (hd : decode cc pc = .ok (.lookupswitch dflt ps, len)) (hp : (ps.toList.zip (ps.toList.drop 1)).all (fun (a, next) => a.1 < next.1) = true) (ho : Op.lookupswitch.offset ps.toList dflt x.toInt = off) (ht : (pc : Int) + off = (tgt : Int)) (k : gm_G p l e R s m args below meth c Q cf ad sh N nL S tgt lv st) : gm_G p l e R s m args below meth c Q cf ad sh N nL S pc lv (.int x :: st) := fun H locs ls hP hD hS hl => lv_lookup C.1 C.2.1 hd hp ho ht (k H locs ls hP hD hS hl)
theorem gm_ldc (C : gm_F p s m args meth c cf ad N cc nL own) {index : Nat} {v : Int32} (hw : Jvm.Cond.constant own index v ∈ gm_tbl) (hd : decode cc pc = .ok (.ldc index, 2)) (k : gm_G p l e R s m args below meth c Q cf ad sh N nL S (pc + 2) lv (.int v :: st)) : gm_G p l e R s m args below meth c Q cf ad sh N nL S pc lv st := fun H locs ls hP hD hS hl => lv_ldc C.1 C.2.1 C.2.2.2.1 (C.2.2.2.2.1 _ hw) hd (k H locs ls hP hD hS hl)
theorem gm_ldcw (C : gm_F p s m args meth c cf ad N cc nL own) {index : Nat} {v : Int32} (hw : Jvm.Cond.constant own index v ∈ gm_tbl) (hd : decode cc pc = .ok (.ldc_w index, 3)) (k : gm_G p l e R s m args below meth c Q cf ad sh N nL S (pc + 3) lv (.int v :: st)) : gm_G p l e R s m args below meth c Q cf ad sh N nL S pc lv st := fun H locs ls hP hD hS hl => lv_ldcw C.1 C.2.1 C.2.2.2.1 (C.2.2.2.2.1 _ hw) hd (k H locs ls hP hD hS hl)
theorem gm_ldc2 (C : gm_F p s m args meth c cf ad N cc nL own) {index : Nat} {v : Int64} (hw : Jvm.Cond.constantLong own index v ∈ gm_tbl) (hd : decode cc pc = .ok (.ldc2_w index, 3)) (k : gm_G p l e R s m args below meth c Q cf ad sh N nL S (pc + 3) lv (.long v :: st)) : gm_G p l e R s m args below meth c Q cf ad sh N nL S pc lv st := fun H locs ls hP hD hS hl => lv_ldc2 C.1 C.2.1 C.2.2.2.1 (C.2.2.2.2.1 _ hw) hd (k H locs ls hP hD hS hl)
def gm_kc (ci : Nat) (Cn : String) (T : u_T) (n : Nat) (ty : Nat → FieldType) : Prop := ci < 100 ∧ gm_cls[ci]? = some (Cn, T, n) ∧ (∀ w ∈ u_ws Cn T n, w ∈ gm_tbl) ∧ (∀ k, k < n → parseFieldDescriptor (T k).2.2.1 = some (ty k)) ∧ (∀ a, a < n → ∀ b, b < n → a ≠ b → (T a).2.1 ≠ (T b).2.1)
theorem gm_geti (C : gm_F p s m args meth c cf ad N cc nL own) {t ci n k : Nat} {Cn : String} {T : u_T} {ty : Nat → FieldType} {index : Nat} (hN : t < N) (hk : (sh t).1 = ci) (K : gm_kc ci Cn T n ty) (hf : (gm_fd ci)[k]? = some (0)) (hkn : k < n) (hr : (T k).1 = Cn) (hw : Cond.fieldLink own index Cn (T k).2.1 (T k).2.2.1 ∈ gm_tbl) (hd : decode cc pc = .ok (.getfield index, 3))
    (kk : gm_G p l e R s m args below meth c Q cf ad sh N nL S (pc + 3) lv (.int (S.1 t k) :: st)) : gm_G p l e R s m args below meth c Q cf ad sh N nL S pc lv (.ref (ad t) :: st) := by
  intro H locs ls hP hD hS hl
  refine va_get C.1 C.2.1 C.2.2.2.2.1 K.2.2.1 C.2.2.2.1 C.2.2.2.2.2.1 hP t (by rw [gm_at hN, gm_obj hk K.1]) K.2.1 k hkn (C.2.2.2.2.1 _ hw) (fun x h => by rw [← hr]; exact h) (gm_fs_at hf) hd ?_
  exact kk H locs ls hP hD hS hl
theorem gm_getl (C : gm_F p s m args meth c cf ad N cc nL own) {t ci n k : Nat} {Cn : String} {T : u_T} {ty : Nat → FieldType} {index : Nat} (hN : t < N) (hk : (sh t).1 = ci) (K : gm_kc ci Cn T n ty) (hf : (gm_fd ci)[k]? = some (1)) (hkn : k < n) (hr : (T k).1 = Cn) (hw : Cond.fieldLink own index Cn (T k).2.1 (T k).2.2.1 ∈ gm_tbl) (hd : decode cc pc = .ok (.getfield index, 3))
    (kk : gm_G p l e R s m args below meth c Q cf ad sh N nL S (pc + 3) lv (.long (S.2 t k) :: st)) : gm_G p l e R s m args below meth c Q cf ad sh N nL S pc lv (.ref (ad t) :: st) := by
  intro H locs ls hP hD hS hl
  refine va_get C.1 C.2.1 C.2.2.2.2.1 K.2.2.1 C.2.2.2.1 C.2.2.2.2.2.1 hP t (by rw [gm_at hN, gm_obj hk K.1]) K.2.1 k hkn (C.2.2.2.2.1 _ hw) (fun x h => by rw [← hr]; exact h) (gm_fs_at hf) hd ?_
  exact kk H locs ls hP hD hS hl
theorem gm_getr (C : gm_F p s m args meth c cf ad N cc nL own) {j u : Nat} {t ci n k : Nat} {Cn : String} {T : u_T} {ty : Nat → FieldType} {index : Nat} (hN : t < N) (hk : (sh t).1 = ci) (K : gm_kc ci Cn T n ty) (hf : (gm_fd ci)[k]? = some (j + 2)) (hkn : k < n) (hu : t + j = u) (hr : (T k).1 = Cn) (hw : Cond.fieldLink own index Cn (T k).2.1 (T k).2.2.1 ∈ gm_tbl) (hd : decode cc pc = .ok (.getfield index, 3))
    (kk : gm_G p l e R s m args below meth c Q cf ad sh N nL S (pc + 3) lv (.ref (ad u) :: st)) : gm_G p l e R s m args below meth c Q cf ad sh N nL S pc lv (.ref (ad t) :: st) := by
  intro H locs ls hP hD hS hl
  subst hu
  refine va_get C.1 C.2.1 C.2.2.2.2.1 K.2.2.1 C.2.2.2.1 C.2.2.2.2.2.1 hP t (by rw [gm_at hN, gm_obj hk K.1]) K.2.1 k hkn (C.2.2.2.2.1 _ hw) (fun x h => by rw [← hr]; exact h) (gm_fs_at hf) hd ?_
  exact kk H locs ls hP hD hS hl
theorem gm_puti (C : gm_F p s m args meth c cf ad N cc nL own) {v : Int32} {t ci n k : Nat} {Cn : String} {T : u_T} {ty : Nat → FieldType} {index : Nat} (hN : t < N) (hk : (sh t).1 = ci) (K : gm_kc ci Cn T n ty) (hf : (gm_fd ci)[k]? = some 0) (hkn : k < n) (hr : (T k).1 = Cn) (hfin : (T k).2.2.2 = false) {ty1 : FieldType} (hp : parseFieldDescriptor (T k).2.2.1 = some ty1) (hn : narrow ty1 (.int v) = .int v) (hfit : fits ty1 (.int v) = true) (hw : Cond.fieldLink own index Cn (T k).2.1 (T k).2.2.1 ∈ gm_tbl) (hd : decode cc pc = .ok (.putfield index, 3))
    (kk : gm_G p l e R s m args below meth c Q cf ad sh N nL (gm_ui S t k v) (pc + 3) lv st) : gm_G p l e R s m args below meth c Q cf ad sh N nL S pc lv (.int v :: .ref (ad t) :: st) := by
  intro H locs ls hP hD hS hl
  refine va_put C.1 C.2.1 C.2.2.2.2.1 K.2.2.1 ty K.2.2.2.1 K.2.2.2.2 C.2.2.2.1 C.2.2.2.2.2.1 hP hD hS t (by rw [gm_at hN, gm_obj hk K.1]) K.2.1 k hkn (C.2.2.2.2.1 _ hw) (fun x h => by rw [← hr]; exact h) hfin hp hn hfit (by rw [gm_fs_len]; exact (List.getElem?_eq_some_iff.mp hf).1) hd (fun H1 locs1 hP1 hD1 hS1 => ?_)
  have hs : (gm_fs ad (S.1 t) (S.2 t) t (gm_fd ci)).set k (.int v) = gm_fs ad (upd (S.1 t) k v) (S.2 t) t (gm_fd ci) := by
    rw [← gm_fs_set (I' := upd (S.1 t) k v) (J' := S.2 t) hf (fun j hj => pk_un hj) (fun _ _ => rfl)]
    simp only [gm_fv, pk_us]
  have he := gm_set (cf := cf) (ad := ad) (sh := sh) (S := S) (S' := gm_ui S t k v) (e := .inr (ci, (gm_fs ad (S.1 t) (S.2 t) t (gm_fd ci)).set k (.int v))) hN (by rw [gm_obj hk K.1, hs]; simp only [gm_ui, va_up_self]) (fun j hj => va_up_ne _ _ hj) (fun _ _ => rfl)
  rw [he] at hP1 hD1
  exact kk H1 locs1 ls hP1 hD1 hS1 hl
theorem gm_putl (C : gm_F p s m args meth c cf ad N cc nL own) {v : Int64} {t ci n k : Nat} {Cn : String} {T : u_T} {ty : Nat → FieldType} {index : Nat} (hN : t < N) (hk : (sh t).1 = ci) (K : gm_kc ci Cn T n ty) (hf : (gm_fd ci)[k]? = some 1) (hkn : k < n) (hr : (T k).1 = Cn) (hfin : (T k).2.2.2 = false) {ty1 : FieldType} (hp : parseFieldDescriptor (T k).2.2.1 = some ty1) (hn : narrow ty1 (.long v) = .long v) (hfit : fits ty1 (.long v) = true) (hw : Cond.fieldLink own index Cn (T k).2.1 (T k).2.2.1 ∈ gm_tbl) (hd : decode cc pc = .ok (.putfield index, 3))
    (kk : gm_G p l e R s m args below meth c Q cf ad sh N nL (gm_uj S t k v) (pc + 3) lv st) : gm_G p l e R s m args below meth c Q cf ad sh N nL S pc lv (.long v :: .ref (ad t) :: st) := by
  intro H locs ls hP hD hS hl
  refine va_put C.1 C.2.1 C.2.2.2.2.1 K.2.2.1 ty K.2.2.2.1 K.2.2.2.2 C.2.2.2.1 C.2.2.2.2.2.1 hP hD hS t (by rw [gm_at hN, gm_obj hk K.1]) K.2.1 k hkn (C.2.2.2.2.1 _ hw) (fun x h => by rw [← hr]; exact h) hfin hp hn hfit (by rw [gm_fs_len]; exact (List.getElem?_eq_some_iff.mp hf).1) hd (fun H1 locs1 hP1 hD1 hS1 => ?_)
  have hs : (gm_fs ad (S.1 t) (S.2 t) t (gm_fd ci)).set k (.long v) = gm_fs ad (S.1 t) (vp_updL (S.2 t) k v) t (gm_fd ci) := by
    rw [← gm_fs_set (I' := S.1 t) (J' := vp_updL (S.2 t) k v) hf (fun _ _ => rfl) (fun j hj => pk_uLn hj)]
    simp only [gm_fv, pk_uLs]
  have he := gm_set (cf := cf) (ad := ad) (sh := sh) (S := S) (S' := gm_uj S t k v) (e := .inr (ci, (gm_fs ad (S.1 t) (S.2 t) t (gm_fd ci)).set k (.long v))) hN (by rw [gm_obj hk K.1, hs]; simp only [gm_uj, va_up_self]) (fun _ _ => rfl) (fun j hj => va_up_ne _ _ hj)
  rw [he] at hP1 hD1
  exact kk H1 locs1 ls hP1 hD1 hS1 hl
theorem gm_iald (C : gm_F p s m args meth c cf ad N cc nL own) {t n : Nat} {i : Int32} (hN : t < N) (hk : (sh t).1 = 100) (hn : (sh t).2.1 = n) (hin : vp_in i n) (hd : decode cc pc = .ok (.iaload, 1))
    (kk : gm_G p l e R s m args below meth c Q cf ad sh N nL S (pc + 1) lv (.int (S.1 t i.toNatClampNeg) :: st)) : gm_G p l e R s m args below meth c Q cf ad sh N nL S pc lv (.int i :: .ref (ad t) :: st) := fun H locs ls hP hD hS hl => va_iald C.1 C.2.1 C.2.2.2.2.2.1 hP t 0 (by rw [gm_at hN, gm_iarr (k := 0) hk (by decide) hn]) rfl hin hd (kk H locs ls hP hD hS hl)
theorem gm_cald (C : gm_F p s m args meth c cf ad N cc nL own) {t n : Nat} {i : Int32} (hN : t < N) (hk : (sh t).1 = 101) (hn : (sh t).2.1 = n) (hin : vp_in i n) (hd : decode cc pc = .ok (.caload, 1))
    (kk : gm_G p l e R s m args below meth c Q cf ad sh N nL S (pc + 1) lv (.int (S.1 t i.toNatClampNeg) :: st)) : gm_G p l e R s m args below meth c Q cf ad sh N nL S pc lv (.int i :: .ref (ad t) :: st) := fun H locs ls hP hD hS hl => va_cald C.1 C.2.1 C.2.2.2.2.2.1 hP t 1 (by rw [gm_at hN, gm_iarr (k := 1) hk (by decide) hn]) rfl hin hd (kk H locs ls hP hD hS hl)
theorem gm_zald (C : gm_F p s m args meth c cf ad N cc nL own) {t n : Nat} {i : Int32} (hN : t < N) (hk : (sh t).1 = 102) (hn : (sh t).2.1 = n) (hin : vp_in i n) (hd : decode cc pc = .ok (.baload, 1))
    (kk : gm_G p l e R s m args below meth c Q cf ad sh N nL S (pc + 1) lv (.int (S.1 t i.toNatClampNeg) :: st)) : gm_G p l e R s m args below meth c Q cf ad sh N nL S pc lv (.int i :: .ref (ad t) :: st) := fun H locs ls hP hD hS hl => va_zald C.1 C.2.1 C.2.2.2.2.2.1 hP t 2 (by rw [gm_at hN, gm_iarr (k := 2) hk (by decide) hn]) rfl hin hd (kk H locs ls hP hD hS hl)
theorem gm_iast (C : gm_F p s m args meth c cf ad N cc nL own) {t n : Nat} {i x : Int32} (hN : t < N) (hk : (sh t).1 = 100) (hn : (sh t).2.1 = n) (hin : vp_in i n) (hd : decode cc pc = .ok (.iastore, 1))
    (kk : gm_G p l e R s m args below meth c Q cf ad sh N nL (gm_ui S t i.toNatClampNeg x) (pc + 1) lv st) : gm_G p l e R s m args below meth c Q cf ad sh N nL S pc lv (.int x :: .int i :: .ref (ad t) :: st) := by
  intro H locs ls hP hD hS hl
  refine va_iast C.1 C.2.1 C.2.2.2.2.2.1 hP hD hS t 0 (by rw [gm_at hN, gm_iarr (k := 0) hk (by decide) hn]) rfl hin hd (fun H1 locs1 hP1 hD1 hS1 => ?_)
  have he := gm_set (cf := cf) (ad := ad) (sh := sh) (S := S) (S' := gm_ui S t i.toNatClampNeg x) (e := .inl (cf.2 0, n, .inl (upd (S.1 t) i.toNatClampNeg x))) hN (by rw [gm_iarr (k := 0) hk (by decide) hn]; simp only [gm_ui, va_up_self]) (fun j hj => va_up_ne _ _ hj) (fun _ _ => rfl)
  rw [he] at hP1 hD1
  exact kk H1 locs1 ls hP1 hD1 hS1 hl
theorem gm_cast (C : gm_F p s m args meth c cf ad N cc nL own) {t n : Nat} {i x : Int32} (hN : t < N) (hk : (sh t).1 = 101) (hn : (sh t).2.1 = n) (hin : vp_in i n) (hd : decode cc pc = .ok (.castore, 1))
    (kk : gm_G p l e R s m args below meth c Q cf ad sh N nL (gm_ui S t i.toNatClampNeg (vp_nar .char x)) (pc + 1) lv st) : gm_G p l e R s m args below meth c Q cf ad sh N nL S pc lv (.int x :: .int i :: .ref (ad t) :: st) := by
  intro H locs ls hP hD hS hl
  refine va_cast C.1 C.2.1 C.2.2.2.2.2.1 hP hD hS t 1 (by rw [gm_at hN, gm_iarr (k := 1) hk (by decide) hn]) rfl hin hd (fun H1 locs1 hP1 hD1 hS1 => ?_)
  have he := gm_set (cf := cf) (ad := ad) (sh := sh) (S := S) (S' := gm_ui S t i.toNatClampNeg (vp_nar .char x)) (e := .inl (cf.2 1, n, .inl (upd (S.1 t) i.toNatClampNeg (vp_nar .char x)))) hN (by rw [gm_iarr (k := 1) hk (by decide) hn]; simp only [gm_ui, va_up_self]) (fun j hj => va_up_ne _ _ hj) (fun _ _ => rfl)
  rw [he] at hP1 hD1
  exact kk H1 locs1 ls hP1 hD1 hS1 hl
theorem gm_zast (C : gm_F p s m args meth c cf ad N cc nL own) {t n : Nat} {i x : Int32} (hN : t < N) (hk : (sh t).1 = 102) (hn : (sh t).2.1 = n) (hin : vp_in i n) (hd : decode cc pc = .ok (.bastore, 1))
    (kk : gm_G p l e R s m args below meth c Q cf ad sh N nL (gm_ui S t i.toNatClampNeg (vp_nar .boolean x)) (pc + 1) lv st) : gm_G p l e R s m args below meth c Q cf ad sh N nL S pc lv (.int x :: .int i :: .ref (ad t) :: st) := by
  intro H locs ls hP hD hS hl
  refine va_zast C.1 C.2.1 C.2.2.2.2.2.1 hP hD hS t 2 (by rw [gm_at hN, gm_iarr (k := 2) hk (by decide) hn]) rfl hin hd (fun H1 locs1 hP1 hD1 hS1 => ?_)
  have he := gm_set (cf := cf) (ad := ad) (sh := sh) (S := S) (S' := gm_ui S t i.toNatClampNeg (vp_nar .boolean x)) (e := .inl (cf.2 2, n, .inl (upd (S.1 t) i.toNatClampNeg (vp_nar .boolean x)))) hN (by rw [gm_iarr (k := 2) hk (by decide) hn]; simp only [gm_ui, va_up_self]) (fun j hj => va_up_ne _ _ hj) (fun _ _ => rfl)
  rw [he] at hP1 hD1
  exact kk H1 locs1 ls hP1 hD1 hS1 hl
theorem gm_lald (C : gm_F p s m args meth c cf ad N cc nL own) {t n : Nat} {i : Int32} (hN : t < N) (hk : (sh t).1 = 103) (hn : (sh t).2.1 = n) (hin : vp_in i n) (hd : decode cc pc = .ok (.laload, 1))
    (kk : gm_G p l e R s m args below meth c Q cf ad sh N nL S (pc + 1) lv (.long (S.2 t i.toNatClampNeg) :: st)) : gm_G p l e R s m args below meth c Q cf ad sh N nL S pc lv (.int i :: .ref (ad t) :: st) := fun H locs ls hP hD hS hl => va_lald C.1 C.2.1 C.2.2.2.2.2.1 hP t 3 (by rw [gm_at hN, gm_larr hk hn]) rfl hin hd (kk H locs ls hP hD hS hl)
theorem gm_last (C : gm_F p s m args meth c cf ad N cc nL own) {t n : Nat} {i : Int32} {x : Int64} (hN : t < N) (hk : (sh t).1 = 103) (hn : (sh t).2.1 = n) (hin : vp_in i n) (hd : decode cc pc = .ok (.lastore, 1))
    (kk : gm_G p l e R s m args below meth c Q cf ad sh N nL (gm_uj S t i.toNatClampNeg x) (pc + 1) lv st) : gm_G p l e R s m args below meth c Q cf ad sh N nL S pc lv (.long x :: .int i :: .ref (ad t) :: st) := by
  intro H locs ls hP hD hS hl
  refine va_last C.1 C.2.1 C.2.2.2.2.2.1 hP hD hS t 3 (by rw [gm_at hN, gm_larr hk hn]) rfl hin hd (fun H1 locs1 hP1 hD1 hS1 => ?_)
  have he := gm_set (cf := cf) (ad := ad) (sh := sh) (S := S) (S' := gm_uj S t i.toNatClampNeg x) (e := .inl (cf.2 3, n, .inr (.inl (vp_updL (S.2 t) i.toNatClampNeg x)))) hN (by rw [gm_larr hk hn]; simp only [gm_uj, va_up_self]) (fun _ _ => rfl) (fun j hj => va_up_ne _ _ hj)
  rw [he] at hP1 hD1
  exact kk H1 locs1 ls hP1 hD1 hS1 hl
theorem gm_aald (C : gm_F p s m args meth c cf ad N cc nL own) {t k n b d : Nat} {i : Int32} {ty : FieldType} (hN : t < N) (hk : sh t = (100 + k, n, b, d)) (h4 : 4 ≤ k) (hty : (gm_tys cf)[k]? = some (cf.2 k, ty)) (href : ty.isReference = true) (hin : vp_in i n) (hd : decode cc pc = .ok (.aaload, 1))
    (kk : gm_G p l e R s m args below meth c Q cf ad sh N nL S (pc + 1) lv (.ref (ad (b + d * i.toNatClampNeg)) :: st)) : gm_G p l e R s m args below meth c Q cf ad sh N nL S pc lv (.int i :: .ref (ad t) :: st) := by
  intro H locs ls hP hD hS hl
  have hlt : i.toNatClampNeg < n := Nat.not_le.mp fun q => hin (Or.inr q)
  have ha := gm_at (cf := cf) (ad := ad) (sh := sh) (S := S) hN
  rw [gm_rarr hk h4] at ha
  exact W.aald (v := va_rf (some (ad (b + d * i.toNatClampNeg)))) (ty := ty) C.1 C.2.1 (hP t _ ha) ((C.2.2.2.2.2.1.2 k _ hty).1 n (fun j => va_rf (some (ad (b + d * j))))) href (fun q => by cases q) (by show ¬ (i < 0 ∨ (arrV _ _ _).slots.size ≤ _); rw [arrV_size]; exact hin) (by show (arrV _ _ _).slots[_]? = _; rw [arrV_read _ _ hlt]) rfl rfl hd (kk H locs ls hP hD hS hl)
theorem gm_alen (C : gm_F p s m args meth c cf ad N cc nL own) {t n : Nat} {v : Int32} (hN : t < N) (hk : (sh t).1 = 100) (hn : (sh t).2.1 = n) (hv : Int32.ofNat n = v) (hd : decode cc pc = .ok (.arraylength, 1))
    (kk : gm_G p l e R s m args below meth c Q cf ad sh N nL S (pc + 1) lv (.int v :: st)) : gm_G p l e R s m args below meth c Q cf ad sh N nL S pc lv (.ref (ad t) :: st) := fun H locs ls hP hD hS hl => va_alen C.1 C.2.1 C.2.2.2.2.2.1 hP t 0 (by rw [gm_at hN, gm_iarr (k := 0) hk (by decide) hn]) rfl hv hd (kk H locs ls hP hD hS hl)
theorem gm_copy (C : gm_F p s m args meth c cf ad N cc nL own) {t0 t1 n : Nat} {index : Nat} {v : Int32} (hN0 : t0 < N) (hk0 : (sh t0).1 = 100) (hn0 : (sh t0).2.1 = n) (hN1 : t1 < N) (hk1 : (sh t1).1 = 100) (hn1 : (sh t1).2.1 = n) (h3 : ¬ v < 0) (hv : v.toNatClampNeg = n) (hw : Cond.methodLink own index arraycopyName ∈ gm_tbl) (hw2 : Cond.native arraycopyName ∈ gm_tbl) (hw3 : Cond.static arraycopyName ∈ gm_tbl) (hw4 : Cond.initialized "java/lang/System" ∈ gm_tbl) (hfr : 1 ≤ R.frames) (hlo : (st.map fun v => v.category).sum + (nativeFrameWords "java/lang/System" "arraycopy" 5 + 11) ≤ R.locals) (hd : decode cc pc = .ok (.invokestatic index, 3))
    (kk : gm_G p l e R s m args below meth c Q cf ad sh N nL (gm_uf S t1 (va_cpy (S.1 t0) (S.1 t1) 0 0 n)) (pc + 3) lv st) : gm_G p l e R s m args below meth c Q cf ad sh N nL S pc lv (.int v :: .int 0 :: .ref (ad t1) :: .int 0 :: .ref (ad t0) :: st) := by
  intro H locs ls hP hD hS hl
  refine va_copyi C.1 C.2.1 (C.2.2.1.trans hl.1.symm) C.2.2.2.1 (C.2.2.2.2.1 _ hw) (C.2.2.2.2.1 _ hw2) (C.2.2.2.2.1 _ hw3) (C.2.2.2.2.1 _ hw4) C.2.2.2.2.2.1 hP hD hS t0 t1 0 0 (by rw [gm_at hN0, gm_iarr (k := 0) hk0 (by decide) hn0]) (by rw [gm_at hN1, gm_iarr (k := 0) hk1 (by decide) hn1]) rfl rfl rfl (by decide) (by decide) h3 (by rw [hv, sb_cl0]; omega) (by rw [hv, sb_cl0]; omega) (fun _ _ => rfl) hfr hlo hd (fun H1 locs1 hP1 hD1 hS1 => ?_)
  rw [sb_cl0, hv] at hP1 hD1
  have he := gm_set (cf := cf) (ad := ad) (sh := sh) (S := S) (S' := gm_uf S t1 (va_cpy (S.1 t0) (S.1 t1) 0 0 n)) (e := .inl (cf.2 0, n, .inl (va_cpy (S.1 t0) (S.1 t1) 0 0 n))) hN1 (by rw [gm_iarr (k := 0) hk1 (by decide) hn1]; simp only [gm_uf, va_up_self]) (fun j hj => va_up_ne _ _ hj) (fun _ _ => rfl)
  rw [he] at hP1 hD1
  exact kk H1 locs1 ls hP1 hD1 hS1 hl
theorem gm_least (C : gm_F p s m args meth c cf ad N cc nL own) {index : Nat} (hw : Cond.fieldLink own index RX6 "LEAST_A" "[I" ∈ gm_tbl) (hd : decode cc pc = .ok (.getstatic index, 3)) (kk : ∀ t : Nat, va_T .int t 5 (fun j => .int (gm_la j)) (gm_A ad N) s s.heap → gm_G p l e R s m args below meth c Q cf ad sh N nL S (pc + 3) lv (.ref t :: st)) : gm_G p l e R s m args below meth c Q cf ad sh N nL S pc lv st := by
  intro H locs ls hP hD hS hl
  obtain ⟨t, h1, h2⟩ := C.2.2.2.2.2.2.2.1
  exact va_gets C.1 C.2.1 h1 hS C.2.2.2.1 (C.2.2.2.2.1 _ hw) (fun x h => h) hd (kk t h2 H locs ls hP hD hS hl)
theorem gm_great (C : gm_F p s m args meth c cf ad N cc nL own) {index : Nat} (hw : Cond.fieldLink own index RX6 "GREATEST_A" "[I" ∈ gm_tbl) (hd : decode cc pc = .ok (.getstatic index, 3)) (kk : ∀ t : Nat, va_T .int t 5 (fun j => .int (gm_ga j)) (gm_A ad N) s s.heap → gm_G p l e R s m args below meth c Q cf ad sh N nL S (pc + 3) lv (.ref t :: st)) : gm_G p l e R s m args below meth c Q cf ad sh N nL S pc lv st := by
  intro H locs ls hP hD hS hl
  obtain ⟨t, h1, h2⟩ := C.2.2.2.2.2.2.2.2
  exact va_gets C.1 C.2.1 h1 hS C.2.2.2.1 (C.2.2.2.2.1 _ hw) (fun x h => h) hd (kk t h2 H locs ls hP hD hS hl)
theorem gm_tald (C : gm_F p s m args meth c cf ad N cc nL own) {t n : Nat} {f : Nat → Int32} {i : Int32} (hT : va_T .int t n (fun j => .int (f j)) (gm_A ad N) s s.heap) (hin : vp_in i n) (hd : decode cc pc = .ok (.iaload, 1)) (kk : gm_G p l e R s m args below meth c Q cf ad sh N nL S (pc + 1) lv (.int (f i.toNatClampNeg) :: st)) : gm_G p l e R s m args below meth c Q cf ad sh N nL S pc lv (.int i :: .ref t :: st) := fun H locs ls hP hD hS hl => va_ti C.1 C.2.1 hT hS hin rfl hd (kk H locs ls hP hD hS hl)
theorem gm_mmax (C : gm_F p s m args meth c cf ad N cc nL own) {index : Nat} {x y : Int32} (hw : Cond.methodLink own index Lib.Math.max.name ∈ gm_tbl) (hw2 : Cond.static Lib.Math.max.name ∈ gm_tbl) (hw3 : Cond.initialized "java/lang/Math" ∈ gm_tbl) (hw4 : Cond.code Lib.Math.max.name Lib.Math.max.code 2 (some .int) ∈ gm_tbl) (hfr : 1 ≤ R.frames) (hlo : (st.map fun v => v.category).sum + 13 ≤ R.locals) (hd : decode cc pc = .ok (.invokestatic index, 3)) (kk : gm_G p l e R s m args below meth c Q cf ad sh N nL S (pc + 3) lv (.int (if x < y then y else x) :: st)) : gm_G p l e R s m args below meth c Q cf ad sh N nL S pc lv (.int y :: .int x :: st) := fun H locs ls hP hD hS hl => va_mmax C.1 C.2.1 (C.2.2.1.trans hl.1.symm) C.2.2.2.1 (C.2.2.2.2.1 _ hw) (C.2.2.2.2.1 _ hw2) (C.2.2.2.2.1 _ hw3) (C.2.2.2.2.1 _ hw4) hfr hlo (Nat.zero_le _) (Nat.zero_le _) hd (kk H locs ls hP hD hS hl)
theorem gm_mmin (C : gm_F p s m args meth c cf ad N cc nL own) {index : Nat} {x y : Int32} (hw : Cond.methodLink own index Lib.Math.min.name ∈ gm_tbl) (hw2 : Cond.static Lib.Math.min.name ∈ gm_tbl) (hw3 : Cond.initialized "java/lang/Math" ∈ gm_tbl) (hw4 : Cond.code Lib.Math.min.name Lib.Math.min.code 2 (some .int) ∈ gm_tbl) (hfr : 1 ≤ R.frames) (hlo : (st.map fun v => v.category).sum + 13 ≤ R.locals) (hd : decode cc pc = .ok (.invokestatic index, 3)) (kk : gm_G p l e R s m args below meth c Q cf ad sh N nL S (pc + 3) lv (.int (if y < x then y else x) :: st)) : gm_G p l e R s m args below meth c Q cf ad sh N nL S pc lv (.int y :: .int x :: st) := fun H locs ls hP hD hS hl => va_mmin C.1 C.2.1 (C.2.2.1.trans hl.1.symm) C.2.2.2.1 (C.2.2.2.2.1 _ hw) (C.2.2.2.2.1 _ hw2) (C.2.2.2.2.1 _ hw3) (C.2.2.2.2.1 _ hw4) hfr hlo (Nat.zero_le _) (Nat.zero_le _) hd (kk H locs ls hP hD hS hl)
theorem gm_mabs (C : gm_F p s m args meth c cf ad N cc nL own) {index : Nat} {x : Int32} (hw : Cond.methodLink own index Lib.Math.abs.name ∈ gm_tbl) (hw2 : Cond.static Lib.Math.abs.name ∈ gm_tbl) (hw3 : Cond.initialized "java/lang/Math" ∈ gm_tbl) (hw4 : Cond.code Lib.Math.abs.name Lib.Math.abs.code 1 (some .int) ∈ gm_tbl) (hfr : 1 ≤ R.frames) (hlo : (st.map fun v => v.category).sum + 13 ≤ R.locals) (hd : decode cc pc = .ok (.invokestatic index, 3)) (kk : gm_G p l e R s m args below meth c Q cf ad sh N nL S (pc + 3) lv (.int (if 0 ≤ x then x else 0 - x) :: st)) : gm_G p l e R s m args below meth c Q cf ad sh N nL S pc lv (.int x :: st) := fun H locs ls hP hD hS hl => va_mabs C.1 C.2.1 (C.2.2.1.trans hl.1.symm) C.2.2.2.1 (C.2.2.2.2.1 _ hw) (C.2.2.2.2.1 _ hw2) (C.2.2.2.2.1 _ hw3) (C.2.2.2.2.1 _ hw4) hfr hlo (Nat.zero_le _) (Nat.zero_le _) hd (kk H locs ls hP hD hS hl)
end GR
section GE
variable {p : Program} {l : Launch} {e : Env} {R : Room} {s : State} {m : MethodId} {args : Array Value} {below : List Frame} {meth : Method} {c : Code} {cf : gm_C} {ad : Nat → Nat} {sh : gm_H} {N nL : Nat} {S S' : gm_M} {pc : Nat} {lv : List (Nat × Value)} {cc : ByteArray} {own : String}
theorem gm_iret (C : gm_F p s m args meth c cf ad N cc nL own) {v r : Int32} {ty : FieldType} (hr : meth.sig.returnType = some ty) (hn : narrow ty (.int v) = .int v) (hd : decode cc pc = .ok (.ireturn, 1)) (hf : some (v, S) = some (r, S')) : gm_G p l e R s m args below meth c (MQ below (gm_Q cf ad sh N (some (.int r)) S') args s 0 0 (gm_A ad N)) cf ad sh N nL S pc lv [.int v] := by
  cases hf
  intro H locs ls hP hD hS hl
  exact W.zret C.1 C.2.1 hr hn (fun t ht hW => ⟨rfl, by rw [ht]; exact hP, hD, hS.F ht⟩) hS.2.2 hd C.2.2.2.2.2.2.1
theorem gm_lret (C : gm_F p s m args meth c cf ad N cc nL own) {v r : Int64} (hr : meth.sig.returnType = some .long) (hd : decode cc pc = .ok (.lreturn, 1)) (hf : some (v, S) = some (r, S')) : gm_G p l e R s m args below meth c (MQ below (gm_Q cf ad sh N (some (.long r)) S') args s 0 0 (gm_A ad N)) cf ad sh N nL S pc lv [.long v] := by
  cases hf
  intro H locs ls hP hD hS hl
  exact W.lret C.1 C.2.1 hr (fun t ht hW => ⟨rfl, by rw [ht]; exact hP, hD, hS.F ht⟩) hS.2.2 hd C.2.2.2.2.2.2.1
theorem gm_vret (C : gm_F p s m args meth c cf ad N cc nL own) (hr : meth.sig.returnType = none) (hd : decode cc pc = .ok (.return_, 1)) (hf : some S = some S') : gm_G p l e R s m args below meth c (MQ below (gm_Q cf ad sh N none S') args s 0 0 (gm_A ad N)) cf ad sh N nL S pc lv [] := by
  cases hf
  intro H locs ls hP hD hS hl
  exact W.vret C.1 C.2.1 hr (fun t ht hW => ⟨rfl, by rw [ht]; exact hP, hD, hS.F ht⟩) hS.2.2 hd C.2.2.2.2.2.2.1
end GE
theorem gm_good : ∀ w ∈ gm_tbl, (w.onTables && w.keeps) = true ∨ ∃ ty, w = .arrayClass ty := fun w h => good_of_word (List.mem_filter.mp h).2
theorem gm_goodIn {ws : List Cond} (h : ∀ w ∈ ws, w ∈ gm_tbl) : GoodIn gm_tbl ws := fun w hw => ⟨h w hw, gm_good w (h w hw)⟩
def gm_y (y : MethodName) (b : ByteArray) (maxL : Nat) (ret : Option FieldType) (n : Nat) : Prop := Cond.code y b maxL ret ∈ gm_tbl ∧ Cond.initialized y.cls ∈ gm_tbl ∧ y.cls ≠ "java/lang/invoke/MethodHandle" ∧ y.cls ≠ "java/lang/invoke/VarHandle" ∧ (parseMethodDescriptor y.desc).map (fun d => d.parameters.length) = some n
def gm_yv (y : MethodName) (b : ByteArray) (maxL : Nat) (ret : Option FieldType) (n : Nat) : Prop := gm_y y b maxL ret n ∧ Cond.instanceMethod y ∈ gm_tbl ∧ Cond.selects y.cls y y ∈ gm_tbl
def gm_ys (y : MethodName) (b : ByteArray) (maxL : Nat) (ret : Option FieldType) (n : Nat) : Prop := gm_y y b maxL ret n ∧ Cond.static y ∈ gm_tbl
section GC
variable {p : Program} {l : Launch} {e : Env} {R : Room} {s : State} {m : MethodId} {args : Array Value} {below : List Frame} {meth : Method} {c : Code} {Q : State → Prop} {cf : gm_C} {ad : Nat → Nat} {sh : gm_H} {N nL : Nat} {S S1 : gm_M} {pc : Nat} {lv : List (Nat × Value)} {st rest : List Value} {cc : ByteArray} {own : String} {y : MethodName} {b : ByteArray} {maxL n index fr lo : Nat} {ret : Option FieldType} {As : List Value} {rv : Option Value}
theorem gm_after {H : Heap} {locs : List Loc} {ls : Array Slot} {avs : Array Value} (hl : lv_has ls nL lv) (hS : va_S (gm_A ad N) s.heap H locs) (hr : va_Run p l e R s m args below meth c H locs 0 0 0 0 (F0 m pc ls st) rest (gm_Q cf ad sh N rv S1 avs) (gm_A ad N))
    (kk : gm_G p l e R s m args below meth c Q cf ad sh N nL S1 (pc + 3) lv (rv.toList ++ rest)) : W p l e R s m args below meth c H locs 0 0 Q (F0 m pc ls st) := by
  intro T hT X
  obtain ⟨v, st₀, t, T', L, h0, X', hL, e1, e2, ⟨hv, hP1, hD1, hz, hk⟩, go⟩ := hr T hT X
  cases hv
  rw [h0] at hz hk
  rw [← e1] at hP1 hz hk
  obtain ⟨t2, a1, b1⟩ := kk T'.heap (locs ++ L) ls hP1 hD1 ⟨Nat.le_trans hS.1 hz, fun q h1 h2 => by rw [hk q (Nat.lt_of_lt_of_le h1 hS.1) h2]; exact hS.2.1 q h1 h2, fun q hq => by
      rcases List.mem_append.mp hq with h | h
      · exact hS.2.2 q h
      · exact hL q h⟩ hl T' rfl X'
  exact ⟨t2, go t2 a1, b1⟩
theorem gm_pre {H : Heap} {locs : List Loc} {avs : List Value} (hK : va_K cf.1 gm_cls (gm_tys cf) s) (hZ : gm_Z (gm_A ad N) s s.heap) (hP : va_P cf.1 gm_cls (gm_W cf ad sh N S) H) (hD : va_D (gm_A ad N) (gm_W cf ad sh N S)) (hS : va_S (gm_A ad N) s.heap H locs) : ∀ U : State, U.heap = H → s.WarmedH U.vm → gm_P cf ad sh N avs S avs.toArray U := by
  intro U hU hW
  refine ⟨rfl, by rw [hU]; exact hP, va_K.moved hW.alike hK, hD, ?_⟩
  rw [hU]
  exact (hZ.kept hS.2.1).moved hW.alike
theorem gm_callV (C : gm_F p s m args meth c cf ad N cc nL own) {t ci : Nat} {Cn : String} {T : u_T} {nf : Nat} {ty : Nat → FieldType} (hM : gm_Met l y b maxL ret fr lo cf ad sh N (.ref (ad t) :: As) S rv S1) (hN : t < N) (hk : (sh t).1 = ci) (K : gm_kc ci Cn T nf ty) (hy : gm_yv y b maxL ret n) (hc : y.cls = Cn) (hw : Cond.methodLink own index y ∈ gm_tbl) (hn : As.length = n) (hR : fr + 1 ≤ R.frames ∧ 8 + (maxL + 11) + lo ≤ R.locals) (hst : st = As.reverse ++ .ref (ad t) :: rest) (hro : (rest.map fun v => v.category).sum ≤ 8) (hd : decode cc pc = .ok (.invokevirtual index, 3))
    (kk : gm_G p l e R s m args below meth c Q cf ad sh N nL S1 (pc + 3) lv (rv.toList ++ rest)) : gm_G p l e R s m args below meth c Q cf ad sh N nL S pc lv st := by
  intro H locs ls hP hD hS hl
  subst hst
  subst hc
  have he := gm_at (cf := cf) (ad := ad) (sh := sh) (S := S) hN
  rw [gm_obj hk K.1] at he
  refine gm_after hl hS (va_runV (Ts := gm_tbl) (own := own) (C := y.cls) ⟨C.1, C.2.1, C.2.2.1, C.2.2.2.1, C.2.2.2.2.1⟩ hM (cwV n C.2.2.2.2.1 (gm_goodIn (fun w h => ?_)) rfl rfl rfl ⟨rfl, hy.1.2.2⟩ hR) ⟨gm_P_blind, va_recv C.2.2.2.2.2.1 hP K.2.1 he, gm_pre C.2.2.2.2.2.1 C.2.2.2.2.2.2.2 hP hD hS⟩ rfl hn hl.1 rfl (lv_room hro) hd ⟨Nat.zero_le _, Nat.zero_le _⟩) kk
  unfold wsV at h
  rcases List.mem_append.mp h with h | h
  · rcases List.mem_cons.mp h with h | h
    · rw [h]; exact hw
    rcases List.mem_cons.mp h with h | h
    · rw [h]; exact hy.2.1
    rcases List.mem_cons.mp h with h | h
    · rw [h]; exact hy.2.2
    rw [List.mem_singleton.mp h]; exact hy.1.2.1
  · rcases List.mem_cons.mp h with h | h
    · rw [h]; exact hy.1.1
    · exact h
theorem gm_callS (C : gm_F p s m args meth c cf ad N cc nL own) (hM : gm_Met l y b maxL ret fr lo cf ad sh N As S rv S1) (hy : gm_ys y b maxL ret n) (hw : Cond.methodLink own index y ∈ gm_tbl) (hn : As.length = n) (hR : fr + 1 ≤ R.frames ∧ 8 + (maxL + 11) + lo ≤ R.locals) (hst : st = As.reverse ++ rest) (hro : (rest.map fun v => v.category).sum ≤ 8) (hd : decode cc pc = .ok (.invokestatic index, 3))
    (kk : gm_G p l e R s m args below meth c Q cf ad sh N nL S1 (pc + 3) lv (rv.toList ++ rest)) : gm_G p l e R s m args below meth c Q cf ad sh N nL S pc lv st := by
  intro H locs ls hP hD hS hl
  subst hst
  refine gm_after hl hS (va_runS (Ts := gm_tbl) (own := own) ⟨C.1, C.2.1, C.2.2.1, C.2.2.2.1, C.2.2.2.2.1⟩ hM (va_cwS n C.2.2.2.2.1 (gm_goodIn (fun w h => ?_)) rfl rfl rfl hy.1.2.2 hR) ⟨gm_P_blind, gm_pre C.2.2.2.2.2.1 C.2.2.2.2.2.2.2 hP hD hS⟩ rfl hn hl.1 rfl (lv_room hro) hd ⟨Nat.zero_le _, Nat.zero_le _⟩) kk
  unfold va_wsS at h
  rcases List.mem_append.mp h with h | h
  · rcases List.mem_cons.mp h with h | h
    · rw [h]; exact hw
    rcases List.mem_cons.mp h with h | h
    · rw [h]; exact hy.2
    rw [List.mem_singleton.mp h]; exact hy.1.2.1
  · rcases List.mem_cons.mp h with h | h
    · rw [h]; exact hy.1.1
    · exact h
end GC
def gm_lt {α β : Type} (x : α) (k : α → Option β) : Option β := k x
def gm_ck {β : Type} (i : Int32) (n : Nat) (k : Option β) : Option β := if 0 ≤ i.toInt ∧ i.toInt < n then k else none
def gm_b1 {β : Type} (x : Option Int32) (k : Int32 → Option β) : Option β := match x with
  | none => none
  | some v => k v
def gm_b2 {β : Type} (x : Option (Int32 × gm_M)) (k : Int32 → gm_M → Option β) : Option β := match x with
  | none => none
  | some v => k v.1 v.2
def gm_b3 {β : Type} (x : Option gm_M) (k : gm_M → Option β) : Option β := match x with
  | none => none
  | some v => k v
def gm_b4 {β : Type} (x : Option Int64) (k : Int64 → Option β) : Option β := match x with
  | none => none
  | some v => k v
theorem gm_lt_s {α β : Type} {x : α} {k : α → Option β} {r : β} (h : gm_lt x k = some r) : ∃ y, y = x ∧ k y = some r := ⟨x, rfl, h⟩
theorem gm_ck_s {β : Type} {i : Int32} {n : Nat} {k : Option β} {r : β} (h : gm_ck i n k = some r) : vp_in i n ∧ k = some r := by
  unfold gm_ck at h
  by_cases c : 0 ≤ i.toInt ∧ i.toInt < n
  · rw [if_pos c] at h
    exact ⟨vp_in_iff.mpr c, h⟩
  · rw [if_neg c] at h
    cases h
theorem gm_b1_s {β : Type} {x : Option Int32} {k : Int32 → Option β} {r : β} (h : gm_b1 x k = some r) : ∃ v, x = some v ∧ k v = some r := by
  cases x with
  | none => cases h
  | some v => exact ⟨v, rfl, h⟩
theorem gm_b2_s {β : Type} {x : Option (Int32 × gm_M)} {k : Int32 → gm_M → Option β} {r : β} (h : gm_b2 x k = some r) : ∃ v S1, x = some (v, S1) ∧ k v S1 = some r := by
  cases x with
  | none => cases h
  | some v => exact ⟨v.1, v.2, rfl, h⟩
theorem gm_b3_s {β : Type} {x : Option gm_M} {k : gm_M → Option β} {r : β} (h : gm_b3 x k = some r) : ∃ S1, x = some S1 ∧ k S1 = some r := by
  cases x with
  | none => cases h
  | some v => exact ⟨v, rfl, h⟩
theorem gm_b4_s {β : Type} {x : Option Int64} {k : Int64 → Option β} {r : β} (h : gm_b4 x k = some r) : ∃ v, x = some v ∧ k v = some r := by
  cases x with
  | none => cases h
  | some v => exact ⟨v, rfl, h⟩
theorem gm_it {c : Prop} (dc : Decidable c) {β : Type} {a b : β} {r : β} (hc : c) (h : (@ite β c dc a b) = r) : a = r := by rw [if_pos hc] at h; exact h
theorem gm_if {c : Prop} (dc : Decidable c) {β : Type} {a b : β} {r : β} (hc : ¬ c) (h : (@ite β c dc a b) = r) : b = r := by rw [if_neg hc] at h; exact h
theorem gm_in {c : Prop} (dc : Decidable c) {β : Type} {a : Option β} {r : β} (h : (@ite (Option β) c dc a none) = some r) : c ∧ a = some r := by
  by_cases hc : c
  · rw [if_pos hc] at h; exact ⟨hc, h⟩
  · rw [if_neg hc] at h; cases h
theorem gm_iz {c : Prop} (dc : Decidable c) {β : Type} {a : Option β} {r : β} (h : (@ite (Option β) c dc none a) = some r) : ¬ c ∧ a = some r := by
  by_cases hc : c
  · rw [if_pos hc] at h; cases h
  · rw [if_neg hc] at h; exact ⟨hc, h⟩
theorem gm_nt {x y : Int32} (h : ¬ x = y) : x.toInt ≠ y.toInt := fun q => h (Int32.toInt_inj.mp q)
theorem gm_zb {v : Int32} (h : vp_nar .boolean v = v) : narrow .boolean (.int v) = .int v := by
  have : narrow .boolean (.int v) = .int (vp_nar .boolean v) := by simp [vp_nar, narrow]
  rw [this, h]
theorem gm_zc {v : Int32} (h : vp_nar .char v = v) : narrow .char (.int v) = .int v := by
  have : narrow .char (.int v) = .int (vp_nar .char v) := by simp [vp_nar, narrow]
  rw [this, h]
