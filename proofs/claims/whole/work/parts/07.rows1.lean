section MMR
variable {G : mm_G} {y : mm_M} {A : Nat → Prop} {L : Nat × Nat} {d pc : Nat} {lv : List (Nat × Value)} {st : List Value} {h : mm_H} {Q : Option Value → mm_H → Prop}
theorem mm_iconst {n : Int} {v : Int32} (hd : decode y.2.1 pc = .ok (.iconst n, 1)) (hv : Int32.ofInt n = v)
    (k : mm_Run G y A L d (pc + 1) lv (.int v :: st) h Q) : mm_Run G y A L d (pc) lv st h Q := by
  intro p e R s m args below meth c H locs ls F Rm Ok hl
  exact lv_iconst F.1 F.2.1 hd hv (k p e R s m args below meth c H locs ls F Rm Ok hl)
theorem mm_bipush {n : Int} {v : Int32} (hd : decode y.2.1 pc = .ok (.bipush n, 2)) (hv : (Int8.ofInt n).toInt32 = v)
    (k : mm_Run G y A L d (pc + 2) lv (.int v :: st) h Q) : mm_Run G y A L d (pc) lv st h Q := by
  intro p e R s m args below meth c H locs ls F Rm Ok hl
  exact lv_bipush F.1 F.2.1 hd hv (k p e R s m args below meth c H locs ls F Rm Ok hl)
theorem mm_sipush {n : Int} {v : Int32} (hd : decode y.2.1 pc = .ok (.sipush n, 3)) (hv : (Int16.ofInt n).toInt32 = v)
    (k : mm_Run G y A L d (pc + 3) lv (.int v :: st) h Q) : mm_Run G y A L d (pc) lv st h Q := by
  intro p e R s m args below meth c H locs ls F Rm Ok hl
  exact lv_sipush F.1 F.2.1 hd hv (k p e R s m args below meth c H locs ls F Rm Ok hl)
theorem mm_lconst {n : Fin 2} {v : Int64} (hd : decode y.2.1 pc = .ok (.lconst n, 1)) (hv : Int64.ofNat (n : Nat) = v)
    (k : mm_Run G y A L d (pc + 1) lv (.long v :: st) h Q) : mm_Run G y A L d (pc) lv st h Q := by
  intro p e R s m args below meth c H locs ls F Rm Ok hl
  exact lv_lconst F.1 F.2.1 hd hv (k p e R s m args below meth c H locs ls F Rm Ok hl)
theorem mm_null  (hd : decode y.2.1 pc = .ok (.aconst_null, 1)) 
    (k : mm_Run G y A L d (pc + 1) lv (.null :: st) h Q) : mm_Run G y A L d (pc) lv st h Q := by
  intro p e R s m args below meth c H locs ls F Rm Ok hl
  exact lv_null F.1 F.2.1 hd (k p e R s m args below meth c H locs ls F Rm Ok hl)
theorem mm_ldc {n : Nat} {v : Int32} (hd : decode y.2.1 pc = .ok (.ldc n, 2)) (hc : Cond.constant y.1.cls n v ∈ mm_tbl)
    (k : mm_Run G y A L d (pc + 2) lv (.int v :: st) h Q) : mm_Run G y A L d (pc) lv st h Q := by
  intro p e R s m args below meth c H locs ls F Rm Ok hl
  exact lv_ldc F.1 F.2.1 F.2.2.2.2.1 (F.2.2.2.2.2.2.2.1 _ hc) hd (k p e R s m args below meth c H locs ls F Rm Ok hl)
theorem mm_ldc_w {n : Nat} {v : Int32} (hd : decode y.2.1 pc = .ok (.ldc_w n, 3)) (hc : Cond.constant y.1.cls n v ∈ mm_tbl)
    (k : mm_Run G y A L d (pc + 3) lv (.int v :: st) h Q) : mm_Run G y A L d (pc) lv st h Q := by
  intro p e R s m args below meth c H locs ls F Rm Ok hl
  exact lv_ldcw F.1 F.2.1 F.2.2.2.2.1 (F.2.2.2.2.2.2.2.1 _ hc) hd (k p e R s m args below meth c H locs ls F Rm Ok hl)
theorem mm_ldc2 {n : Nat} {v : Int64} (hd : decode y.2.1 pc = .ok (.ldc2_w n, 3)) (hc : Cond.constantLong y.1.cls n v ∈ mm_tbl)
    (k : mm_Run G y A L d (pc + 3) lv (.long v :: st) h Q) : mm_Run G y A L d (pc) lv st h Q := by
  intro p e R s m args below meth c H locs ls F Rm Ok hl
  exact lv_ldc2 F.1 F.2.1 F.2.2.2.2.1 (F.2.2.2.2.2.2.2.1 _ hc) hd (k p e R s m args below meth c H locs ls F Rm Ok hl)
theorem mm_iload_n {n : Fin 4} {x : Int32} (hd : decode y.2.1 pc = .ok (.iload_n n, 1)) (hk : mm_lk lv (n : Nat) = some (.int x))
    (k : mm_Run G y A L d (pc + 1) lv (.int x :: st) h Q) : mm_Run G y A L d (pc) lv st h Q := by
  intro p e R s m args below meth c H locs ls F Rm Ok hl
  exact lv_iload_n F.1 F.2.1 hd rfl (hl.2.2 _ _ hk) (k p e R s m args below meth c H locs ls F Rm Ok hl)
theorem mm_iload {n : Nat} {x : Int32} (hd : decode y.2.1 pc = .ok (.iload n, 2)) (hk : mm_lk lv n = some (.int x))
    (k : mm_Run G y A L d (pc + 2) lv (.int x :: st) h Q) : mm_Run G y A L d (pc) lv st h Q := by
  intro p e R s m args below meth c H locs ls F Rm Ok hl
  exact lv_iload F.1 F.2.1 hd (hl.2.2 _ _ hk) (k p e R s m args below meth c H locs ls F Rm Ok hl)
theorem mm_lload_n {n : Fin 4} {x : Int64} (hd : decode y.2.1 pc = .ok (.lload_n n, 1)) (hk : mm_lk lv (n : Nat) = some (.long x))
    (k : mm_Run G y A L d (pc + 1) lv (.long x :: st) h Q) : mm_Run G y A L d (pc) lv st h Q := by
  intro p e R s m args below meth c H locs ls F Rm Ok hl
  exact lv_lload_n F.1 F.2.1 hd rfl (hl.2.2 _ _ hk) (k p e R s m args below meth c H locs ls F Rm Ok hl)
theorem mm_lload {n : Nat} {x : Int64} (hd : decode y.2.1 pc = .ok (.lload n, 2)) (hk : mm_lk lv n = some (.long x))
    (k : mm_Run G y A L d (pc + 2) lv (.long x :: st) h Q) : mm_Run G y A L d (pc) lv st h Q := by
  intro p e R s m args below meth c H locs ls F Rm Ok hl
  exact lv_lload F.1 F.2.1 hd (hl.2.2 _ _ hk) (k p e R s m args below meth c H locs ls F Rm Ok hl)
theorem mm_aload_n {n : Fin 4} {v : Value} (hd : decode y.2.1 pc = .ok (.aload_n n, 1)) (hk : mm_lk lv (n : Nat) = some v) (hv : mm_isr v)
    (k : mm_Run G y A L d (pc + 1) lv (v :: st) h Q) : mm_Run G y A L d (pc) lv st h Q := by
  intro p e R s m args below meth c H locs ls F Rm Ok hl
  cases v with
  | null => exact lv_aload_nN F.1 F.2.1 hd rfl (hl.2.2 _ _ hk) (k p e R s m args below meth c H locs ls F Rm Ok hl)
  | ref a => exact lv_aload_n F.1 F.2.1 hd rfl (hl.2.2 _ _ hk) (k p e R s m args below meth c H locs ls F Rm Ok hl)
  | _ => exact absurd hv id
theorem mm_aload {n : Nat} {v : Value} (hd : decode y.2.1 pc = .ok (.aload n, 2)) (hk : mm_lk lv n = some v) (hv : mm_isr v)
    (k : mm_Run G y A L d (pc + 2) lv (v :: st) h Q) : mm_Run G y A L d (pc) lv st h Q := by
  intro p e R s m args below meth c H locs ls F Rm Ok hl
  cases v with
  | null => exact lv_aloadN F.1 F.2.1 hd (hl.2.2 _ _ hk) (k p e R s m args below meth c H locs ls F Rm Ok hl)
  | ref a => exact lv_aload F.1 F.2.1 hd (hl.2.2 _ _ hk) (k p e R s m args below meth c H locs ls F Rm Ok hl)
  | _ => exact absurd hv id
theorem mm_istore_n {n : Fin 4} {x : Int32} (hd : decode y.2.1 pc = .ok (.istore_n n, 1)) (hn : mm_n2 lv (n : Nat) = true) (hlt : (n : Nat) < y.2.2.1)
    (k : mm_Run G y A L d (pc + 1) (((n : Nat), .int x) :: lv) st h Q) : mm_Run G y A L d (pc) lv (.int x :: st) h Q := by
  intro p e R s m args below meth c H locs ls F Rm Ok hl
  exact lv_istore_n F.1 F.2.1 hd rfl hl.has hlt rfl (fun ls2 hl2 => k p e R s m args below meth c H locs ls2 F Rm Ok (mm_ls.put1 (ls := ls) hn hl2))
theorem mm_lstore_n {n : Fin 4} {x : Int64} (hd : decode y.2.1 pc = .ok (.lstore_n n, 1)) (hn : mm_n2 lv (n : Nat) = true) (hu : mm_lk lv ((n : Nat) + 1) = none) (hlt : (n : Nat) + 1 < y.2.2.1)
    (k : mm_Run G y A L d (pc + 1) (((n : Nat), .long x) :: lv) st h Q) : mm_Run G y A L d (pc) lv (.long x :: st) h Q := by
  intro p e R s m args below meth c H locs ls F Rm Ok hl
  exact lv_lstore_n F.1 F.2.1 hd rfl hl.has hlt rfl (fun ls2 hl2 => k p e R s m args below meth c H locs ls2 F Rm Ok (mm_ls.put2 (ls := ls) hn hu hl2))
theorem mm_astore_n {n : Fin 4} {v : Value} (hd : decode y.2.1 pc = .ok (.astore_n n, 1)) (hv : mm_isr v) (hn : mm_n2 lv (n : Nat) = true) (hlt : (n : Nat) < y.2.2.1)
    (k : mm_Run G y A L d (pc + 1) (((n : Nat), v) :: lv) st h Q) : mm_Run G y A L d (pc) lv (v :: st) h Q := by
  intro p e R s m args below meth c H locs ls F Rm Ok hl
  cases v with
  | null => exact lv_astore_nN F.1 F.2.1 hd rfl hl.has hlt rfl (fun ls2 hl2 => k p e R s m args below meth c H locs ls2 F Rm Ok (mm_ls.put1 (ls := ls) hn hl2))
  | ref a => exact lv_astore_n F.1 F.2.1 hd rfl hl.has hlt rfl (fun ls2 hl2 => k p e R s m args below meth c H locs ls2 F Rm Ok (mm_ls.put1 (ls := ls) hn hl2))
  | _ => exact absurd hv id
theorem mm_istore {n : Nat} {x : Int32} (hd : decode y.2.1 pc = .ok (.istore n, 2)) (hn : mm_n2 lv n = true) (hlt : n < y.2.2.1)
    (k : mm_Run G y A L d (pc + 2) ((n, .int x) :: lv) st h Q) : mm_Run G y A L d (pc) lv (.int x :: st) h Q := by
  intro p e R s m args below meth c H locs ls F Rm Ok hl
  exact lv_istore F.1 F.2.1 hd hl.has hlt rfl (fun ls2 hl2 => k p e R s m args below meth c H locs ls2 F Rm Ok (mm_ls.put1 (ls := ls) hn hl2))
theorem mm_lstore {n : Nat} {x : Int64} (hd : decode y.2.1 pc = .ok (.lstore n, 2)) (hn : mm_n2 lv n = true) (hu : mm_lk lv (n + 1) = none) (hlt : n + 1 < y.2.2.1)
    (k : mm_Run G y A L d (pc + 2) ((n, .long x) :: lv) st h Q) : mm_Run G y A L d (pc) lv (.long x :: st) h Q := by
  intro p e R s m args below meth c H locs ls F Rm Ok hl
  exact lv_lstore F.1 F.2.1 hd hl.has hlt rfl (fun ls2 hl2 => k p e R s m args below meth c H locs ls2 F Rm Ok (mm_ls.put2 (ls := ls) hn hu hl2))
theorem mm_astore {n : Nat} {v : Value} (hd : decode y.2.1 pc = .ok (.astore n, 2)) (hv : mm_isr v) (hn : mm_n2 lv n = true) (hlt : n < y.2.2.1)
    (k : mm_Run G y A L d (pc + 2) ((n, v) :: lv) st h Q) : mm_Run G y A L d (pc) lv (v :: st) h Q := by
  intro p e R s m args below meth c H locs ls F Rm Ok hl
  cases v with
  | null => exact lv_astoreN F.1 F.2.1 hd hl.has hlt rfl (fun ls2 hl2 => k p e R s m args below meth c H locs ls2 F Rm Ok (mm_ls.put1 (ls := ls) hn hl2))
  | ref a => exact lv_astore F.1 F.2.1 hd hl.has hlt rfl (fun ls2 hl2 => k p e R s m args below meth c H locs ls2 F Rm Ok (mm_ls.put1 (ls := ls) hn hl2))
  | _ => exact absurd hv id
theorem mm_iinc {i : Nat} {n : Int} {x v : Int32} (hd : decode y.2.1 pc = .ok (.iinc i n, 3)) (hk : mm_lk lv i = some (.int x)) (hv : x + Int32.ofInt n = v) (hn : mm_n2 lv i = true) (hlt : i < y.2.2.1)
    (k : mm_Run G y A L d (pc + 3) ((i, .int v) :: lv) st h Q) : mm_Run G y A L d (pc) lv st h Q := by
  intro p e R s m args below meth c H locs ls F Rm Ok hl
  obtain ⟨j, hj⟩ := List.getElem?_of_mem (mm_li_mem hk)
  exact lv_iinc F.1 F.2.1 hd hl.has hj hv hlt rfl (fun ls2 hl2 => k p e R s m args below meth c H locs ls2 F Rm Ok (mm_ls.put1 (ls := ls) hn hl2))
theorem mm_iadd {x y1 : Int32} (hd : decode y.2.1 pc = .ok (.iadd, 1)) 
    (k : mm_Run G y A L d (pc + 1) lv (.int (x + y1) :: st) h Q) : mm_Run G y A L d (pc) lv (.int y1 :: .int x :: st) h Q := by
  intro p e R s m args below meth c H locs ls F Rm Ok hl
  exact lv_iadd F.1 F.2.1 hd (k p e R s m args below meth c H locs ls F Rm Ok hl)
theorem mm_isub {x y1 : Int32} (hd : decode y.2.1 pc = .ok (.isub, 1)) 
    (k : mm_Run G y A L d (pc + 1) lv (.int (x - y1) :: st) h Q) : mm_Run G y A L d (pc) lv (.int y1 :: .int x :: st) h Q := by
  intro p e R s m args below meth c H locs ls F Rm Ok hl
  exact lv_isub F.1 F.2.1 hd (k p e R s m args below meth c H locs ls F Rm Ok hl)
theorem mm_imul {x y1 : Int32} (hd : decode y.2.1 pc = .ok (.imul, 1)) 
    (k : mm_Run G y A L d (pc + 1) lv (.int (x * y1) :: st) h Q) : mm_Run G y A L d (pc) lv (.int y1 :: .int x :: st) h Q := by
  intro p e R s m args below meth c H locs ls F Rm Ok hl
  exact lv_imul F.1 F.2.1 hd (k p e R s m args below meth c H locs ls F Rm Ok hl)
theorem mm_iand {x y1 : Int32} (hd : decode y.2.1 pc = .ok (.iand, 1)) 
    (k : mm_Run G y A L d (pc + 1) lv (.int (x &&& y1) :: st) h Q) : mm_Run G y A L d (pc) lv (.int y1 :: .int x :: st) h Q := by
  intro p e R s m args below meth c H locs ls F Rm Ok hl
  exact lv_iand F.1 F.2.1 hd (k p e R s m args below meth c H locs ls F Rm Ok hl)
theorem mm_ior {x y1 : Int32} (hd : decode y.2.1 pc = .ok (.ior, 1)) 
    (k : mm_Run G y A L d (pc + 1) lv (.int (x ||| y1) :: st) h Q) : mm_Run G y A L d (pc) lv (.int y1 :: .int x :: st) h Q := by
  intro p e R s m args below meth c H locs ls F Rm Ok hl
  exact lv_ior F.1 F.2.1 hd (k p e R s m args below meth c H locs ls F Rm Ok hl)
theorem mm_ishl {x y1 : Int32} (hd : decode y.2.1 pc = .ok (.ishl, 1)) 
    (k : mm_Run G y A L d (pc + 1) lv (.int (x <<< (y1 &&& 31)) :: st) h Q) : mm_Run G y A L d (pc) lv (.int y1 :: .int x :: st) h Q := by
  intro p e R s m args below meth c H locs ls F Rm Ok hl
  exact lv_ishl F.1 F.2.1 hd (k p e R s m args below meth c H locs ls F Rm Ok hl)
theorem mm_ishr {x y1 : Int32} (hd : decode y.2.1 pc = .ok (.ishr, 1)) 
    (k : mm_Run G y A L d (pc + 1) lv (.int (x >>> (y1 &&& 31)) :: st) h Q) : mm_Run G y A L d (pc) lv (.int y1 :: .int x :: st) h Q := by
  intro p e R s m args below meth c H locs ls F Rm Ok hl
  exact lv_ishr F.1 F.2.1 hd (k p e R s m args below meth c H locs ls F Rm Ok hl)
theorem mm_idiv {x y1 : Int32} (hd : decode y.2.1 pc = .ok (.idiv, 1)) (hne : ¬ y1 = 0)
    (k : mm_Run G y A L d (pc + 1) lv (.int (x / y1) :: st) h Q) : mm_Run G y A L d (pc) lv (.int y1 :: .int x :: st) h Q := by
  intro p e R s m args below meth c H locs ls F Rm Ok hl
  exact lv_idiv F.1 F.2.1 hd hne (k p e R s m args below meth c H locs ls F Rm Ok hl)
theorem mm_ineg {x : Int32} (hd : decode y.2.1 pc = .ok (.ineg, 1)) 
    (k : mm_Run G y A L d (pc + 1) lv (.int (-x) :: st) h Q) : mm_Run G y A L d (pc) lv (.int x :: st) h Q := by
  intro p e R s m args below meth c H locs ls F Rm Ok hl
  exact lv_ineg F.1 F.2.1 hd (k p e R s m args below meth c H locs ls F Rm Ok hl)
theorem mm_ladd {x y1 : Int64} (hd : decode y.2.1 pc = .ok (.ladd, 1)) 
    (k : mm_Run G y A L d (pc + 1) lv (.long (x + y1) :: st) h Q) : mm_Run G y A L d (pc) lv (.long y1 :: .long x :: st) h Q := by
  intro p e R s m args below meth c H locs ls F Rm Ok hl
  exact lv_ladd F.1 F.2.1 hd (k p e R s m args below meth c H locs ls F Rm Ok hl)
theorem mm_lsub {x y1 : Int64} (hd : decode y.2.1 pc = .ok (.lsub, 1)) 
    (k : mm_Run G y A L d (pc + 1) lv (.long (x - y1) :: st) h Q) : mm_Run G y A L d (pc) lv (.long y1 :: .long x :: st) h Q := by
  intro p e R s m args below meth c H locs ls F Rm Ok hl
  exact lv_lsub F.1 F.2.1 hd (k p e R s m args below meth c H locs ls F Rm Ok hl)
theorem mm_lmul {x y1 : Int64} (hd : decode y.2.1 pc = .ok (.lmul, 1)) 
    (k : mm_Run G y A L d (pc + 1) lv (.long (x * y1) :: st) h Q) : mm_Run G y A L d (pc) lv (.long y1 :: .long x :: st) h Q := by
  intro p e R s m args below meth c H locs ls F Rm Ok hl
  exact lv_lmul F.1 F.2.1 hd (k p e R s m args below meth c H locs ls F Rm Ok hl)
theorem mm_land {x y1 : Int64} (hd : decode y.2.1 pc = .ok (.land, 1)) 
    (k : mm_Run G y A L d (pc + 1) lv (.long (x &&& y1) :: st) h Q) : mm_Run G y A L d (pc) lv (.long y1 :: .long x :: st) h Q := by
  intro p e R s m args below meth c H locs ls F Rm Ok hl
  exact lv_land F.1 F.2.1 hd (k p e R s m args below meth c H locs ls F Rm Ok hl)
theorem mm_lor {x y1 : Int64} (hd : decode y.2.1 pc = .ok (.lor, 1)) 
    (k : mm_Run G y A L d (pc + 1) lv (.long (x ||| y1) :: st) h Q) : mm_Run G y A L d (pc) lv (.long y1 :: .long x :: st) h Q := by
  intro p e R s m args below meth c H locs ls F Rm Ok hl
  exact lv_lor F.1 F.2.1 hd (k p e R s m args below meth c H locs ls F Rm Ok hl)
theorem mm_ldiv {x y1 : Int64} (hd : decode y.2.1 pc = .ok (.ldiv, 1)) (hne : ¬ y1 = 0)
    (k : mm_Run G y A L d (pc + 1) lv (.long (x / y1) :: st) h Q) : mm_Run G y A L d (pc) lv (.long y1 :: .long x :: st) h Q := by
  intro p e R s m args below meth c H locs ls F Rm Ok hl
  exact lv_ldiv F.1 F.2.1 hd hne (k p e R s m args below meth c H locs ls F Rm Ok hl)
theorem mm_lshl {x : Int64} {y1 : Int32} (hd : decode y.2.1 pc = .ok (.lshl, 1)) 
    (k : mm_Run G y A L d (pc + 1) lv (.long (x <<< (y1.toInt64 &&& 63)) :: st) h Q) : mm_Run G y A L d (pc) lv (.int y1 :: .long x :: st) h Q := by
  intro p e R s m args below meth c H locs ls F Rm Ok hl
  exact lv_lshl F.1 F.2.1 hd rfl (k p e R s m args below meth c H locs ls F Rm Ok hl)
theorem mm_lshr {x : Int64} {y1 : Int32} (hd : decode y.2.1 pc = .ok (.lshr, 1)) 
    (k : mm_Run G y A L d (pc + 1) lv (.long (x >>> (y1.toInt64 &&& 63)) :: st) h Q) : mm_Run G y A L d (pc) lv (.int y1 :: .long x :: st) h Q := by
  intro p e R s m args below meth c H locs ls F Rm Ok hl
  exact lv_lshr F.1 F.2.1 hd rfl (k p e R s m args below meth c H locs ls F Rm Ok hl)
theorem mm_lushr {x : Int64} {y1 : Int32} (hd : decode y.2.1 pc = .ok (.lushr, 1)) 
    (k : mm_Run G y A L d (pc + 1) lv (.long ((x.toUInt64 >>> (y1.toInt64.toUInt64 &&& Int64.toUInt64 63)).toInt64) :: st) h Q) : mm_Run G y A L d (pc) lv (.int y1 :: .long x :: st) h Q := by
  intro p e R s m args below meth c H locs ls F Rm Ok hl
  exact lv_lushr F.1 F.2.1 hd rfl (k p e R s m args below meth c H locs ls F Rm Ok hl)
theorem mm_iushr {x y1 : Int32} (hd : decode y.2.1 pc = .ok (.iushr, 1)) 
    (k : mm_Run G y A L d (pc + 1) lv (.int ((x.toUInt32 >>> (y1.toUInt32 &&& Int32.toUInt32 31)).toInt32) :: st) h Q) : mm_Run G y A L d (pc) lv (.int y1 :: .int x :: st) h Q := by
  intro p e R s m args below meth c H locs ls F Rm Ok hl
  exact lv_iushr F.1 F.2.1 hd rfl (k p e R s m args below meth c H locs ls F Rm Ok hl)
theorem mm_i2l {x : Int32} (hd : decode y.2.1 pc = .ok (.i2l, 1)) 
    (k : mm_Run G y A L d (pc + 1) lv (.long x.toInt64 :: st) h Q) : mm_Run G y A L d (pc) lv (.int x :: st) h Q := by
  intro p e R s m args below meth c H locs ls F Rm Ok hl
  exact lv_i2l F.1 F.2.1 hd rfl (k p e R s m args below meth c H locs ls F Rm Ok hl)
theorem mm_l2i {x : Int64} (hd : decode y.2.1 pc = .ok (.l2i, 1)) 
    (k : mm_Run G y A L d (pc + 1) lv (.int x.toInt32 :: st) h Q) : mm_Run G y A L d (pc) lv (.long x :: st) h Q := by
  intro p e R s m args below meth c H locs ls F Rm Ok hl
  exact lv_l2i F.1 F.2.1 hd rfl (k p e R s m args below meth c H locs ls F Rm Ok hl)
theorem mm_i2b {x : Int32} (hd : decode y.2.1 pc = .ok (.i2b, 1)) 
    (k : mm_Run G y A L d (pc + 1) lv (.int x.toInt8.toInt32 :: st) h Q) : mm_Run G y A L d (pc) lv (.int x :: st) h Q := by
  intro p e R s m args below meth c H locs ls F Rm Ok hl
  exact lv_i2b F.1 F.2.1 hd rfl (k p e R s m args below meth c H locs ls F Rm Ok hl)
theorem mm_i2c {x : Int32} (hd : decode y.2.1 pc = .ok (.i2c, 1)) 
    (k : mm_Run G y A L d (pc + 1) lv (.int (x.toUInt32 % 65536).toInt32 :: st) h Q) : mm_Run G y A L d (pc) lv (.int x :: st) h Q := by
  intro p e R s m args below meth c H locs ls F Rm Ok hl
  exact lv_i2c F.1 F.2.1 hd rfl (k p e R s m args below meth c H locs ls F Rm Ok hl)
theorem mm_lcmp {x y1 : Int64} (hd : decode y.2.1 pc = .ok (.lcmp, 1)) 
    (k : mm_Run G y A L d (pc + 1) lv (.int (lg_cmp x y1) :: st) h Q) : mm_Run G y A L d (pc) lv (.long y1 :: .long x :: st) h Q := by
  intro p e R s m args below meth c H locs ls F Rm Ok hl
  exact W.lcmp F.1 F.2.1 hd (k p e R s m args below meth c H locs ls F Rm Ok hl)
theorem mm_dup {v : Value} (hd : decode y.2.1 pc = .ok (.dup, 1)) (hv : v.category = 1)
    (k : mm_Run G y A L d (pc + 1) lv (v :: v :: st) h Q) : mm_Run G y A L d (pc) lv (v :: st) h Q := by
  intro p e R s m args below meth c H locs ls F Rm Ok hl
  exact lv_dup F.1 F.2.1 hd hv (k p e R s m args below meth c H locs ls F Rm Ok hl)
theorem mm_pop {v : Value} (hd : decode y.2.1 pc = .ok (.pop, 1)) (hv : v.category = 1)
    (k : mm_Run G y A L d (pc + 1) lv st h Q) : mm_Run G y A L d (pc) lv (v :: st) h Q := by
  intro p e R s m args below meth c H locs ls F Rm Ok hl
  exact lv_pop F.1 F.2.1 hd hv (k p e R s m args below meth c H locs ls F Rm Ok hl)
theorem mm_dup_x1 {v w : Value} (hd : decode y.2.1 pc = .ok (.dup_x1, 1)) (hv : v.category = 1) (hw : w.category = 1)
    (k : mm_Run G y A L d (pc + 1) lv (v :: w :: v :: st) h Q) : mm_Run G y A L d (pc) lv (v :: w :: st) h Q := by
  intro p e R s m args below meth c H locs ls F Rm Ok hl
  exact lv_dup_x1 F.1 F.2.1 hd hv hw (k p e R s m args below meth c H locs ls F Rm Ok hl)
theorem mm_dup2 {v w : Value} (hd : decode y.2.1 pc = .ok (.dup2, 1)) (hv : v.category = 1) (hw : w.category = 1)
    (k : mm_Run G y A L d (pc + 1) lv (v :: w :: v :: w :: st) h Q) : mm_Run G y A L d (pc) lv (v :: w :: st) h Q := by
  intro p e R s m args below meth c H locs ls F Rm Ok hl
  exact lv_dup2_11 F.1 F.2.1 hd hv hw (k p e R s m args below meth c H locs ls F Rm Ok hl)
theorem mm_pop2 {v : Value} (hd : decode y.2.1 pc = .ok (.pop2, 1)) (hv : v.category = 2)
    (k : mm_Run G y A L d (pc + 1) lv st h Q) : mm_Run G y A L d (pc) lv (v :: st) h Q := by
  intro p e R s m args below meth c H locs ls F Rm Ok hl
  exact lv_pop2_2 F.1 F.2.1 hd hv (k p e R s m args below meth c H locs ls F Rm Ok hl)
theorem mm_if_eq {x : Int32} {off : Int} {tgt : Nat} (hd : decode y.2.1 pc = .ok (.ifCond .eq off, 3)) (ht : (pc : Int) + off = (tgt : Int))
    (kt : x = 0 → mm_Run G y A L d (tgt) lv st h Q) (kf : ¬ (x = 0) → mm_Run G y A L d (pc + 3) lv st h Q) : mm_Run G y A L d (pc) lv (.int x :: st) h Q := by
  intro p e R s m args below meth c H locs ls F Rm Ok hl
  exact lv_if_eq F.1 F.2.1 hd ht (fun q => kt q p e R s m args below meth c H locs ls F Rm Ok hl) (fun q => kf q p e R s m args below meth c H locs ls F Rm Ok hl)
theorem mm_icmp_eq {x y1 : Int32} {off : Int} {tgt : Nat} (hd : decode y.2.1 pc = .ok (.if_icmp .eq off, 3)) (ht : (pc : Int) + off = (tgt : Int))
    (kt : x = y1 → mm_Run G y A L d (tgt) lv st h Q) (kf : ¬ (x = y1) → mm_Run G y A L d (pc + 3) lv st h Q) : mm_Run G y A L d (pc) lv (.int y1 :: .int x :: st) h Q := by
  intro p e R s m args below meth c H locs ls F Rm Ok hl
  exact lv_icmp_eq F.1 F.2.1 hd ht (fun q => kt q p e R s m args below meth c H locs ls F Rm Ok hl) (fun q => kf q p e R s m args below meth c H locs ls F Rm Ok hl)
theorem mm_if_ne {x : Int32} {off : Int} {tgt : Nat} (hd : decode y.2.1 pc = .ok (.ifCond .ne off, 3)) (ht : (pc : Int) + off = (tgt : Int))
    (kt : ¬ x = 0 → mm_Run G y A L d (tgt) lv st h Q) (kf : x = 0 → mm_Run G y A L d (pc + 3) lv st h Q) : mm_Run G y A L d (pc) lv (.int x :: st) h Q := by
  intro p e R s m args below meth c H locs ls F Rm Ok hl
  exact lv_if_ne F.1 F.2.1 hd ht (fun q => kt q p e R s m args below meth c H locs ls F Rm Ok hl) (fun q => kf q p e R s m args below meth c H locs ls F Rm Ok hl)
theorem mm_icmp_ne {x y1 : Int32} {off : Int} {tgt : Nat} (hd : decode y.2.1 pc = .ok (.if_icmp .ne off, 3)) (ht : (pc : Int) + off = (tgt : Int))
    (kt : ¬ x = y1 → mm_Run G y A L d (tgt) lv st h Q) (kf : x = y1 → mm_Run G y A L d (pc + 3) lv st h Q) : mm_Run G y A L d (pc) lv (.int y1 :: .int x :: st) h Q := by
  intro p e R s m args below meth c H locs ls F Rm Ok hl
  exact lv_icmp_ne F.1 F.2.1 hd ht (fun q => kt q p e R s m args below meth c H locs ls F Rm Ok hl) (fun q => kf q p e R s m args below meth c H locs ls F Rm Ok hl)
theorem mm_if_lt {x : Int32} {off : Int} {tgt : Nat} (hd : decode y.2.1 pc = .ok (.ifCond .lt off, 3)) (ht : (pc : Int) + off = (tgt : Int))
    (kt : x < 0 → mm_Run G y A L d (tgt) lv st h Q) (kf : ¬ (x < 0) → mm_Run G y A L d (pc + 3) lv st h Q) : mm_Run G y A L d (pc) lv (.int x :: st) h Q := by
  intro p e R s m args below meth c H locs ls F Rm Ok hl
  exact lv_if_lt F.1 F.2.1 hd ht (fun q => kt q p e R s m args below meth c H locs ls F Rm Ok hl) (fun q => kf q p e R s m args below meth c H locs ls F Rm Ok hl)
theorem mm_icmp_lt {x y1 : Int32} {off : Int} {tgt : Nat} (hd : decode y.2.1 pc = .ok (.if_icmp .lt off, 3)) (ht : (pc : Int) + off = (tgt : Int))
    (kt : x < y1 → mm_Run G y A L d (tgt) lv st h Q) (kf : ¬ (x < y1) → mm_Run G y A L d (pc + 3) lv st h Q) : mm_Run G y A L d (pc) lv (.int y1 :: .int x :: st) h Q := by
  intro p e R s m args below meth c H locs ls F Rm Ok hl
  exact lv_icmp_lt F.1 F.2.1 hd ht (fun q => kt q p e R s m args below meth c H locs ls F Rm Ok hl) (fun q => kf q p e R s m args below meth c H locs ls F Rm Ok hl)
theorem mm_if_ge {x : Int32} {off : Int} {tgt : Nat} (hd : decode y.2.1 pc = .ok (.ifCond .ge off, 3)) (ht : (pc : Int) + off = (tgt : Int))
    (kt : 0 ≤ x → mm_Run G y A L d (tgt) lv st h Q) (kf : ¬ (0 ≤ x) → mm_Run G y A L d (pc + 3) lv st h Q) : mm_Run G y A L d (pc) lv (.int x :: st) h Q := by
  intro p e R s m args below meth c H locs ls F Rm Ok hl
  exact lv_if_ge F.1 F.2.1 hd ht (fun q => kt q p e R s m args below meth c H locs ls F Rm Ok hl) (fun q => kf q p e R s m args below meth c H locs ls F Rm Ok hl)
theorem mm_icmp_ge {x y1 : Int32} {off : Int} {tgt : Nat} (hd : decode y.2.1 pc = .ok (.if_icmp .ge off, 3)) (ht : (pc : Int) + off = (tgt : Int))
    (kt : y1 ≤ x → mm_Run G y A L d (tgt) lv st h Q) (kf : ¬ (y1 ≤ x) → mm_Run G y A L d (pc + 3) lv st h Q) : mm_Run G y A L d (pc) lv (.int y1 :: .int x :: st) h Q := by
  intro p e R s m args below meth c H locs ls F Rm Ok hl
  exact lv_icmp_ge F.1 F.2.1 hd ht (fun q => kt q p e R s m args below meth c H locs ls F Rm Ok hl) (fun q => kf q p e R s m args below meth c H locs ls F Rm Ok hl)
theorem mm_if_gt {x : Int32} {off : Int} {tgt : Nat} (hd : decode y.2.1 pc = .ok (.ifCond .gt off, 3)) (ht : (pc : Int) + off = (tgt : Int))
    (kt : 0 < x → mm_Run G y A L d (tgt) lv st h Q) (kf : ¬ (0 < x) → mm_Run G y A L d (pc + 3) lv st h Q) : mm_Run G y A L d (pc) lv (.int x :: st) h Q := by
  intro p e R s m args below meth c H locs ls F Rm Ok hl
  exact lv_if_gt F.1 F.2.1 hd ht (fun q => kt q p e R s m args below meth c H locs ls F Rm Ok hl) (fun q => kf q p e R s m args below meth c H locs ls F Rm Ok hl)
theorem mm_icmp_gt {x y1 : Int32} {off : Int} {tgt : Nat} (hd : decode y.2.1 pc = .ok (.if_icmp .gt off, 3)) (ht : (pc : Int) + off = (tgt : Int))
    (kt : y1 < x → mm_Run G y A L d (tgt) lv st h Q) (kf : ¬ (y1 < x) → mm_Run G y A L d (pc + 3) lv st h Q) : mm_Run G y A L d (pc) lv (.int y1 :: .int x :: st) h Q := by
  intro p e R s m args below meth c H locs ls F Rm Ok hl
  exact lv_icmp_gt F.1 F.2.1 hd ht (fun q => kt q p e R s m args below meth c H locs ls F Rm Ok hl) (fun q => kf q p e R s m args below meth c H locs ls F Rm Ok hl)
theorem mm_if_le {x : Int32} {off : Int} {tgt : Nat} (hd : decode y.2.1 pc = .ok (.ifCond .le off, 3)) (ht : (pc : Int) + off = (tgt : Int))
    (kt : x ≤ 0 → mm_Run G y A L d (tgt) lv st h Q) (kf : ¬ (x ≤ 0) → mm_Run G y A L d (pc + 3) lv st h Q) : mm_Run G y A L d (pc) lv (.int x :: st) h Q := by
  intro p e R s m args below meth c H locs ls F Rm Ok hl
  exact lv_if_le F.1 F.2.1 hd ht (fun q => kt q p e R s m args below meth c H locs ls F Rm Ok hl) (fun q => kf q p e R s m args below meth c H locs ls F Rm Ok hl)
theorem mm_icmp_le {x y1 : Int32} {off : Int} {tgt : Nat} (hd : decode y.2.1 pc = .ok (.if_icmp .le off, 3)) (ht : (pc : Int) + off = (tgt : Int))
    (kt : x ≤ y1 → mm_Run G y A L d (tgt) lv st h Q) (kf : ¬ (x ≤ y1) → mm_Run G y A L d (pc + 3) lv st h Q) : mm_Run G y A L d (pc) lv (.int y1 :: .int x :: st) h Q := by
  intro p e R s m args below meth c H locs ls F Rm Ok hl
  exact lv_icmp_le F.1 F.2.1 hd ht (fun q => kt q p e R s m args below meth c H locs ls F Rm Ok hl) (fun q => kf q p e R s m args below meth c H locs ls F Rm Ok hl)
theorem mm_goto {off : Int} {tgt : Nat} (hd : decode y.2.1 pc = .ok (.goto off, 3)) (ht : (pc : Int) + off = (tgt : Int)) (k : mm_Run G y A L d (tgt) lv st h Q) : mm_Run G y A L d (pc) lv st h Q := by
  intro p e R s m args below meth c H locs ls F Rm Ok hl
  exact lv_goto F.1 F.2.1 hd ht (k p e R s m args below meth c H locs ls F Rm Ok hl)
theorem mm_ifnull {v : Value} {off : Int} {tgt : Nat} (hd : decode y.2.1 pc = .ok (.ifnull off, 3)) (ht : (pc : Int) + off = (tgt : Int)) (hv : mm_isr v)
    (kt : v = .null → mm_Run G y A L d (tgt) lv st h Q) (kf : ∀ a, v = .ref a → mm_Run G y A L d (pc + 3) lv st h Q) : mm_Run G y A L d (pc) lv (v :: st) h Q := by
  intro p e R s m args below meth c H locs ls F Rm Ok hl
  cases v with
  | null => exact lv_ifnullN F.1 F.2.1 hd ht (kt rfl p e R s m args below meth c H locs ls F Rm Ok hl)
  | ref a => exact lv_ifnull F.1 F.2.1 hd (kf a rfl p e R s m args below meth c H locs ls F Rm Ok hl)
  | _ => exact absurd hv id
theorem mm_ifnonnull {v : Value} {off : Int} {tgt : Nat} (hd : decode y.2.1 pc = .ok (.ifnonnull off, 3)) (ht : (pc : Int) + off = (tgt : Int)) (hv : mm_isr v)
    (kt : ∀ a, v = .ref a → mm_Run G y A L d (tgt) lv st h Q) (kf : v = .null → mm_Run G y A L d (pc + 3) lv st h Q) : mm_Run G y A L d (pc) lv (v :: st) h Q := by
  intro p e R s m args below meth c H locs ls F Rm Ok hl
  cases v with
  | null => exact lv_ifnonnullN F.1 F.2.1 hd (kf rfl p e R s m args below meth c H locs ls F Rm Ok hl)
  | ref a => exact lv_ifnonnull F.1 F.2.1 hd ht (kt a rfl p e R s m args below meth c H locs ls F Rm Ok hl)
  | _ => exact absurd hv id
theorem mm_acmp_eq {v w : Value} {off : Int} {tgt : Nat} (hd : decode y.2.1 pc = .ok (.if_acmp .eq off, 3)) (ht : (pc : Int) + off = (tgt : Int)) (hv : mm_isr v) (hw : mm_isr w)
    (kt : w = v → mm_Run G y A L d (tgt) lv st h Q) (kf : ¬ (w = v) → mm_Run G y A L d (pc + 3) lv st h Q) : mm_Run G y A L d (pc) lv (v :: w :: st) h Q := by
  intro p e R s m args below meth c H locs ls F Rm Ok hl
  obtain ⟨rv, rfl⟩ : ∃ r, v = va_rf r := by
    cases v with
    | null => exact ⟨none, rfl⟩
    | ref a => exact ⟨some a, rfl⟩
    | _ => exact absurd hv id
  obtain ⟨rw1, rfl⟩ : ∃ r, w = va_rf r := by
    cases w with
    | null => exact ⟨none, rfl⟩
    | ref a => exact ⟨some a, rfl⟩
    | _ => exact absurd hw id
  have hi : va_rf rw1 = va_rf rv ↔ rw1 = rv := by
    cases rw1 <;> cases rv <;> simp [va_rf]
  exact lv_acmp_eq F.1 F.2.1 hd ht (fun q => kt (by first | exact hi.mpr q | exact fun z => q (hi.mp z)) p e R s m args below meth c H locs ls F Rm Ok hl) (fun q => kf (by first | exact hi.mpr q | exact fun z => q (hi.mp z)) p e R s m args below meth c H locs ls F Rm Ok hl)
theorem mm_acmp_ne {v w : Value} {off : Int} {tgt : Nat} (hd : decode y.2.1 pc = .ok (.if_acmp .ne off, 3)) (ht : (pc : Int) + off = (tgt : Int)) (hv : mm_isr v) (hw : mm_isr w)
    (kt : ¬ w = v → mm_Run G y A L d (tgt) lv st h Q) (kf : w = v → mm_Run G y A L d (pc + 3) lv st h Q) : mm_Run G y A L d (pc) lv (v :: w :: st) h Q := by
  intro p e R s m args below meth c H locs ls F Rm Ok hl
  obtain ⟨rv, rfl⟩ : ∃ r, v = va_rf r := by
    cases v with
    | null => exact ⟨none, rfl⟩
    | ref a => exact ⟨some a, rfl⟩
    | _ => exact absurd hv id
  obtain ⟨rw1, rfl⟩ : ∃ r, w = va_rf r := by
    cases w with
    | null => exact ⟨none, rfl⟩
    | ref a => exact ⟨some a, rfl⟩
    | _ => exact absurd hw id
  have hi : va_rf rw1 = va_rf rv ↔ rw1 = rv := by
    cases rw1 <;> cases rv <;> simp [va_rf]
  exact lv_acmp_ne F.1 F.2.1 hd ht (fun q => kt (by first | exact hi.mpr q | exact fun z => q (hi.mp z)) p e R s m args below meth c H locs ls F Rm Ok hl) (fun q => kf (by first | exact hi.mpr q | exact fun z => q (hi.mp z)) p e R s m args below meth c H locs ls F Rm Ok hl)
theorem mm_tsw_out {dflt lo hi : Int} {offs : Array Int} {len : Nat} {x : Int32} {tgt : Nat} (hd : decode y.2.1 pc = .ok (.tableswitch dflt lo hi offs, len)) (hx : x.toInt < lo ∨ hi < x.toInt) (ht : (pc : Int) + dflt = (tgt : Int))
    (k : mm_Run G y A L d (tgt) lv st h Q) : mm_Run G y A L d (pc) lv (.int x :: st) h Q := by
  intro p e R s m args below meth c H locs ls F Rm Ok hl
  exact lv_tableOut F.1 F.2.1 hd hx ht (k p e R s m args below meth c H locs ls F Rm Ok hl)
theorem mm_tsw_in {dflt lo hi : Int} {offs : Array Int} {len : Nat} {x : Int32} {off : Int} {tgt : Nat} (hd : decode y.2.1 pc = .ok (.tableswitch dflt lo hi offs, len)) (h1 : ¬ x.toInt < lo) (h2 : ¬ hi < x.toInt) (ho : offs[(x.toInt - lo).toNat]? = some off) (ht : (pc : Int) + off = (tgt : Int))
    (k : mm_Run G y A L d (tgt) lv st h Q) : mm_Run G y A L d (pc) lv (.int x :: st) h Q := by
  intro p e R s m args below meth c H locs ls F Rm Ok hl
  exact lv_tableIn F.1 F.2.1 hd h1 h2 ho ht (k p e R s m args below meth c H locs ls F Rm Ok hl)
theorem mm_lsw {dflt : Int} {ps : Array (Int × Int)} {len : Nat} {x : Int32} {off : Int} {tgt : Nat} (hd : decode y.2.1 pc = .ok (.lookupswitch dflt ps, len)) (hp : (ps.toList.zip (ps.toList.drop 1)).all (fun (a, next) => a.1 < next.1) = true) (ho : Op.lookupswitch.offset ps.toList dflt x.toInt = off) (ht : (pc : Int) + off = (tgt : Int))
    (k : mm_Run G y A L d (tgt) lv st h Q) : mm_Run G y A L d (pc) lv (.int x :: st) h Q := by
  intro p e R s m args below meth c H locs ls F Rm Ok hl
  exact lv_lookup F.1 F.2.1 hd hp ho ht (k p e R s m args below meth c H locs ls F Rm Ok hl)
theorem mm_weak {lv' : List (Nat × Value)} (hs : mm_sub lv lv') (k : mm_Run G y A L d (pc) lv st h Q) : mm_Run G y A L d pc lv' st h Q := by
  intro p e R s m args below meth c H locs ls F Rm Ok hl
  exact k p e R s m args below meth c H locs ls F Rm Ok (hl.sub hs)
theorem mm_post {Q' : Option Value → mm_H → Prop} (hq : ∀ r h1, Q r h1 → Q' r h1) (k : mm_Run G y A L d (pc) lv st h Q) : mm_Run G y A L d pc lv st h Q' := by
  intro p e R s m args below meth c H locs ls F Rm Ok hl T hT X
  obtain ⟨t, a, o, b1, b2, ⟨⟨r, h1, c1, c2, c3⟩, c4⟩, b4⟩ := k p e R s m args below meth c H locs ls F Rm Ok hl T hT X
  exact ⟨t, a, o, b1, b2, ⟨⟨r, h1, c1, hq r h1 c2, c3⟩, c4⟩, b4⟩
theorem mm_iret {v : Int32} (hd : decode y.2.1 pc = .ok (.ireturn, 1)) (hr : y.2.2.2 = some .int) (hq : Q (some (.int v)) h) : mm_Run G y A L d pc lv [.int v] h Q := by
  intro p e R s m args below meth c H locs ls F Rm Ok hl
  have hz := Ok.1.1
  have hz2 := Ok.1.2.1
  have hz3 := Ok.2.2.1
  unfold mm_fit at hz3
  unfold mm_Rm at Rm
  refine W.widen (k := R.cells) (n := R.slots) (by omega) (by omega) ?_
  exact W.iret F.1 F.2.1 (F.2.2.1.trans hr) (fun t ht hW => ⟨⟨_, h, rfl, hq, by rw [ht]; exact Ok.1, Ok.2.1, Ok.2.2.1⟩, Ok.2.2.2.1.F ht⟩) Ok.2.2.2.1.2.2 hd F.2.2.2.2.2.1
theorem mm_zret {v : Int32} {ty : FieldType} (hd : decode y.2.1 pc = .ok (.ireturn, 1)) (hr : y.2.2.2 = some ty) (hn : narrow ty (.int v) = .int v) (hq : Q (some (.int v)) h) : mm_Run G y A L d pc lv [.int v] h Q := by
  intro p e R s m args below meth c H locs ls F Rm Ok hl
  have hz := Ok.1.1
  have hz2 := Ok.1.2.1
  have hz3 := Ok.2.2.1
  unfold mm_fit at hz3
  unfold mm_Rm at Rm
  refine W.widen (k := R.cells) (n := R.slots) (by omega) (by omega) ?_
  exact W.zret F.1 F.2.1 (F.2.2.1.trans hr) hn (fun t ht hW => ⟨⟨_, h, rfl, hq, by rw [ht]; exact Ok.1, Ok.2.1, Ok.2.2.1⟩, Ok.2.2.2.1.F ht⟩) Ok.2.2.2.1.2.2 hd F.2.2.2.2.2.1
theorem mm_lret {v : Int64} (hd : decode y.2.1 pc = .ok (.lreturn, 1)) (hr : y.2.2.2 = some .long) (hq : Q (some (.long v)) h) : mm_Run G y A L d pc lv [.long v] h Q := by
  intro p e R s m args below meth c H locs ls F Rm Ok hl
  have hz := Ok.1.1
  have hz2 := Ok.1.2.1
  have hz3 := Ok.2.2.1
  unfold mm_fit at hz3
  unfold mm_Rm at Rm
  refine W.widen (k := R.cells) (n := R.slots) (by omega) (by omega) ?_
  exact W.lret F.1 F.2.1 (F.2.2.1.trans hr) (fun t ht hW => ⟨⟨_, h, rfl, hq, by rw [ht]; exact Ok.1, Ok.2.1, Ok.2.2.1⟩, Ok.2.2.2.1.F ht⟩) Ok.2.2.2.1.2.2 hd F.2.2.2.2.2.1
theorem mm_vret  (hd : decode y.2.1 pc = .ok (.return_, 1)) (hr : y.2.2.2 = none) (hq : Q none h) : mm_Run G y A L d pc lv [] h Q := by
  intro p e R s m args below meth c H locs ls F Rm Ok hl
  have hz := Ok.1.1
  have hz2 := Ok.1.2.1
  have hz3 := Ok.2.2.1
  unfold mm_fit at hz3
  unfold mm_Rm at Rm
  refine W.widen (k := R.cells) (n := R.slots) (by omega) (by omega) ?_
  exact W.vret F.1 F.2.1 (F.2.2.1.trans hr) (fun t ht hW => ⟨⟨_, h, rfl, hq, by rw [ht]; exact Ok.1, Ok.2.1, Ok.2.2.1⟩, Ok.2.2.2.1.F ht⟩) Ok.2.2.2.1.2.2 hd F.2.2.2.2.2.1
theorem mm_aret {v : Value} {rt : FieldType} (hd : decode y.2.1 pc = .ok (.areturn, 1)) (hr : y.2.2.2 = some rt) (hrt : (∃ n, rt = .object n) ∨ ∃ t, rt = .array t) (hv : mm_isr v) (hq : Q (some v) h) : mm_Run G y A L d pc lv [v] h Q := by
  intro p e R s m args below meth c H locs ls F Rm Ok hl
  have hz := Ok.1.1
  have hz2 := Ok.1.2.1
  have hz3 := Ok.2.2.1
  unfold mm_fit at hz3
  unfold mm_Rm at Rm
  refine W.widen (k := R.cells) (n := R.slots) (by omega) (by omega) ?_
  exact W.aret F.1 F.2.1 (F.2.2.1.trans hr) hrt (by
    cases v with
    | null => exact Or.inl rfl
    | ref a => exact Or.inr ⟨a, rfl⟩
    | _ => exact absurd hv id) (fun t ht hW => ⟨⟨_, h, rfl, hq, by rw [ht]; exact Ok.1, Ok.2.1, Ok.2.2.1⟩, Ok.2.2.2.1.F ht⟩) Ok.2.2.2.1.2.2 hd F.2.2.2.2.2.1
end MMR
