section EvRows
variable {G : ex_G} {C : ex_C} {Y : ex_Y} {R0 : Room} {pc cl sl : Nat} {L : List (Option Value)} {S : List Value} {es : List va_E}
theorem ev_iadd {x y : Int32} (hC : Cx G C Y R0) (hd : decode Y.2.1 pc = .ok (.iadd, 1)) (k : Ev G C Y (pc + 1) L (.int (x + y) :: S) cl sl es) : Ev G C Y pc L (.int y :: .int x :: S) cl sl es := by
  obtain ⟨p, e, R, s, m, args, below, meth, c, Q⟩ := C
  exact fun H locs ls hl hw hS => lv_iadd hC.1 hC.2.1 hd (k H locs ls hl hw hS)
theorem ev_isub {x y : Int32} (hC : Cx G C Y R0) (hd : decode Y.2.1 pc = .ok (.isub, 1)) (k : Ev G C Y (pc + 1) L (.int (x - y) :: S) cl sl es) : Ev G C Y pc L (.int y :: .int x :: S) cl sl es := by
  obtain ⟨p, e, R, s, m, args, below, meth, c, Q⟩ := C
  exact fun H locs ls hl hw hS => lv_isub hC.1 hC.2.1 hd (k H locs ls hl hw hS)
theorem ev_imul {x y : Int32} (hC : Cx G C Y R0) (hd : decode Y.2.1 pc = .ok (.imul, 1)) (k : Ev G C Y (pc + 1) L (.int (x * y) :: S) cl sl es) : Ev G C Y pc L (.int y :: .int x :: S) cl sl es := by
  obtain ⟨p, e, R, s, m, args, below, meth, c, Q⟩ := C
  exact fun H locs ls hl hw hS => lv_imul hC.1 hC.2.1 hd (k H locs ls hl hw hS)
theorem ev_iand {x y : Int32} (hC : Cx G C Y R0) (hd : decode Y.2.1 pc = .ok (.iand, 1)) (k : Ev G C Y (pc + 1) L (.int (x &&& y) :: S) cl sl es) : Ev G C Y pc L (.int y :: .int x :: S) cl sl es := by
  obtain ⟨p, e, R, s, m, args, below, meth, c, Q⟩ := C
  exact fun H locs ls hl hw hS => lv_iand hC.1 hC.2.1 hd (k H locs ls hl hw hS)
theorem ev_ior {x y : Int32} (hC : Cx G C Y R0) (hd : decode Y.2.1 pc = .ok (.ior, 1)) (k : Ev G C Y (pc + 1) L (.int (x ||| y) :: S) cl sl es) : Ev G C Y pc L (.int y :: .int x :: S) cl sl es := by
  obtain ⟨p, e, R, s, m, args, below, meth, c, Q⟩ := C
  exact fun H locs ls hl hw hS => lv_ior hC.1 hC.2.1 hd (k H locs ls hl hw hS)
theorem ev_ixor {x y : Int32} (hC : Cx G C Y R0) (hd : decode Y.2.1 pc = .ok (.ixor, 1)) (k : Ev G C Y (pc + 1) L (.int (x ^^^ y) :: S) cl sl es) : Ev G C Y pc L (.int y :: .int x :: S) cl sl es := by
  obtain ⟨p, e, R, s, m, args, below, meth, c, Q⟩ := C
  exact fun H locs ls hl hw hS => lv_ixor hC.1 hC.2.1 hd (k H locs ls hl hw hS)
theorem ev_ishl {x y : Int32} (hC : Cx G C Y R0) (hd : decode Y.2.1 pc = .ok (.ishl, 1)) (k : Ev G C Y (pc + 1) L (.int (x <<< (y &&& 31)) :: S) cl sl es) : Ev G C Y pc L (.int y :: .int x :: S) cl sl es := by
  obtain ⟨p, e, R, s, m, args, below, meth, c, Q⟩ := C
  exact fun H locs ls hl hw hS => lv_ishl hC.1 hC.2.1 hd (k H locs ls hl hw hS)
theorem ev_ishr {x y : Int32} (hC : Cx G C Y R0) (hd : decode Y.2.1 pc = .ok (.ishr, 1)) (k : Ev G C Y (pc + 1) L (.int (x >>> (y &&& 31)) :: S) cl sl es) : Ev G C Y pc L (.int y :: .int x :: S) cl sl es := by
  obtain ⟨p, e, R, s, m, args, below, meth, c, Q⟩ := C
  exact fun H locs ls hl hw hS => lv_ishr hC.1 hC.2.1 hd (k H locs ls hl hw hS)
theorem ev_iushr {x y : Int32} (hC : Cx G C Y R0) (hd : decode Y.2.1 pc = .ok (.iushr, 1)) (k : Ev G C Y (pc + 1) L (.int (x.toUInt32 >>> (y.toUInt32 &&& Int32.toUInt32 31)).toInt32 :: S) cl sl es) : Ev G C Y pc L (.int y :: .int x :: S) cl sl es := by
  obtain ⟨p, e, R, s, m, args, below, meth, c, Q⟩ := C
  exact fun H locs ls hl hw hS => lv_iushr hC.1 hC.2.1 hd rfl (k H locs ls hl hw hS)
theorem ev_idiv {x y : Int32} (hne : ¬ y = 0) (hC : Cx G C Y R0) (hd : decode Y.2.1 pc = .ok (.idiv, 1)) (k : Ev G C Y (pc + 1) L (.int (x / y) :: S) cl sl es) : Ev G C Y pc L (.int y :: .int x :: S) cl sl es := by
  obtain ⟨p, e, R, s, m, args, below, meth, c, Q⟩ := C
  exact fun H locs ls hl hw hS => lv_idiv hC.1 hC.2.1 hd hne (k H locs ls hl hw hS)
theorem ev_irem {x y : Int32} (hne : ¬ y = 0) (hC : Cx G C Y R0) (hd : decode Y.2.1 pc = .ok (.irem, 1)) (k : Ev G C Y (pc + 1) L (.int (x - x / y * y) :: S) cl sl es) : Ev G C Y pc L (.int y :: .int x :: S) cl sl es := by
  obtain ⟨p, e, R, s, m, args, below, meth, c, Q⟩ := C
  exact fun H locs ls hl hw hS => lv_irem hC.1 hC.2.1 hd hne (k H locs ls hl hw hS)
theorem ev_ineg {x : Int32} (hC : Cx G C Y R0) (hd : decode Y.2.1 pc = .ok (.ineg, 1)) (k : Ev G C Y (pc + 1) L (.int (-x) :: S) cl sl es) : Ev G C Y pc L (.int x :: S) cl sl es := by
  obtain ⟨p, e, R, s, m, args, below, meth, c, Q⟩ := C
  exact fun H locs ls hl hw hS => lv_ineg hC.1 hC.2.1 hd (k H locs ls hl hw hS)
theorem ev_i2l {x : Int32} (hC : Cx G C Y R0) (hd : decode Y.2.1 pc = .ok (.i2l, 1)) (k : Ev G C Y (pc + 1) L (.long x.toInt64 :: S) cl sl es) : Ev G C Y pc L (.int x :: S) cl sl es := by
  obtain ⟨p, e, R, s, m, args, below, meth, c, Q⟩ := C
  exact fun H locs ls hl hw hS => lv_i2l hC.1 hC.2.1 hd rfl (k H locs ls hl hw hS)
theorem ev_l2i {x : Int64} (hC : Cx G C Y R0) (hd : decode Y.2.1 pc = .ok (.l2i, 1)) (k : Ev G C Y (pc + 1) L (.int x.toInt32 :: S) cl sl es) : Ev G C Y pc L (.long x :: S) cl sl es := by
  obtain ⟨p, e, R, s, m, args, below, meth, c, Q⟩ := C
  exact fun H locs ls hl hw hS => lv_l2i hC.1 hC.2.1 hd rfl (k H locs ls hl hw hS)
theorem ev_i2b {x : Int32} (hC : Cx G C Y R0) (hd : decode Y.2.1 pc = .ok (.i2b, 1)) (k : Ev G C Y (pc + 1) L (.int x.toInt8.toInt32 :: S) cl sl es) : Ev G C Y pc L (.int x :: S) cl sl es := by
  obtain ⟨p, e, R, s, m, args, below, meth, c, Q⟩ := C
  exact fun H locs ls hl hw hS => lv_i2b hC.1 hC.2.1 hd rfl (k H locs ls hl hw hS)
theorem ev_i2s {x : Int32} (hC : Cx G C Y R0) (hd : decode Y.2.1 pc = .ok (.i2s, 1)) (k : Ev G C Y (pc + 1) L (.int x.toInt16.toInt32 :: S) cl sl es) : Ev G C Y pc L (.int x :: S) cl sl es := by
  obtain ⟨p, e, R, s, m, args, below, meth, c, Q⟩ := C
  exact fun H locs ls hl hw hS => lv_i2s hC.1 hC.2.1 hd rfl (k H locs ls hl hw hS)
theorem ev_i2c {x : Int32} (hC : Cx G C Y R0) (hd : decode Y.2.1 pc = .ok (.i2c, 1)) (k : Ev G C Y (pc + 1) L (.int (x.toUInt32 % 65536).toInt32 :: S) cl sl es) : Ev G C Y pc L (.int x :: S) cl sl es := by
  obtain ⟨p, e, R, s, m, args, below, meth, c, Q⟩ := C
  exact fun H locs ls hl hw hS => lv_i2c hC.1 hC.2.1 hd rfl (k H locs ls hl hw hS)
theorem ev_ladd {x y : Int64} (hC : Cx G C Y R0) (hd : decode Y.2.1 pc = .ok (.ladd, 1)) (k : Ev G C Y (pc + 1) L (.long (x + y) :: S) cl sl es) : Ev G C Y pc L (.long y :: .long x :: S) cl sl es := by
  obtain ⟨p, e, R, s, m, args, below, meth, c, Q⟩ := C
  exact fun H locs ls hl hw hS => lv_ladd hC.1 hC.2.1 hd (k H locs ls hl hw hS)
theorem ev_land {x y : Int64} (hC : Cx G C Y R0) (hd : decode Y.2.1 pc = .ok (.land, 1)) (k : Ev G C Y (pc + 1) L (.long (x &&& y) :: S) cl sl es) : Ev G C Y pc L (.long y :: .long x :: S) cl sl es := by
  obtain ⟨p, e, R, s, m, args, below, meth, c, Q⟩ := C
  exact fun H locs ls hl hw hS => lv_land hC.1 hC.2.1 hd (k H locs ls hl hw hS)
theorem ev_lor {x y : Int64} (hC : Cx G C Y R0) (hd : decode Y.2.1 pc = .ok (.lor, 1)) (k : Ev G C Y (pc + 1) L (.long (x ||| y) :: S) cl sl es) : Ev G C Y pc L (.long y :: .long x :: S) cl sl es := by
  obtain ⟨p, e, R, s, m, args, below, meth, c, Q⟩ := C
  exact fun H locs ls hl hw hS => lv_lor hC.1 hC.2.1 hd (k H locs ls hl hw hS)
theorem ev_lshl {x : Int64} {y : Int32} (hC : Cx G C Y R0) (hd : decode Y.2.1 pc = .ok (.lshl, 1)) (k : Ev G C Y (pc + 1) L (.long (x <<< (y.toInt64 &&& 63)) :: S) cl sl es) : Ev G C Y pc L (.int y :: .long x :: S) cl sl es := by
  obtain ⟨p, e, R, s, m, args, below, meth, c, Q⟩ := C
  exact fun H locs ls hl hw hS => lv_lshl hC.1 hC.2.1 hd rfl (k H locs ls hl hw hS)
theorem ev_lcmp {x y : Int64} (hC : Cx G C Y R0) (hd : decode Y.2.1 pc = .ok (.lcmp, 1)) (k : Ev G C Y (pc + 1) L (.int (lg_cmp x y) :: S) cl sl es) : Ev G C Y pc L (.long y :: .long x :: S) cl sl es := by
  obtain ⟨p, e, R, s, m, args, below, meth, c, Q⟩ := C
  exact fun H locs ls hl hw hS => W.lcmp hC.1 hC.2.1 hd (k H locs ls hl hw hS)
theorem ev_dup {v : Value} (hv : v.category = 1) (hC : Cx G C Y R0) (hd : decode Y.2.1 pc = .ok (.dup, 1)) (k : Ev G C Y (pc + 1) L (v :: v :: S) cl sl es) : Ev G C Y pc L (v :: S) cl sl es := by
  obtain ⟨p, e, R, s, m, args, below, meth, c, Q⟩ := C
  exact fun H locs ls hl hw hS => lv_dup hC.1 hC.2.1 hd hv (k H locs ls hl hw hS)
theorem ev_dup2 {v w : Value} (hv : v.category = 1) (hv2 : w.category = 1) (hC : Cx G C Y R0) (hd : decode Y.2.1 pc = .ok (.dup2, 1)) (k : Ev G C Y (pc + 1) L (v :: w :: v :: w :: S) cl sl es) : Ev G C Y pc L (v :: w :: S) cl sl es := by
  obtain ⟨p, e, R, s, m, args, below, meth, c, Q⟩ := C
  exact fun H locs ls hl hw hS => lv_dup2_11 hC.1 hC.2.1 hd hv hv2 (k H locs ls hl hw hS)
theorem ev_pop {v : Value} (hv : v.category = 1) (hC : Cx G C Y R0) (hd : decode Y.2.1 pc = .ok (.pop, 1)) (k : Ev G C Y (pc + 1) L (S) cl sl es) : Ev G C Y pc L (v :: S) cl sl es := by
  obtain ⟨p, e, R, s, m, args, below, meth, c, Q⟩ := C
  exact fun H locs ls hl hw hS => lv_pop hC.1 hC.2.1 hd hv (k H locs ls hl hw hS)
theorem ev_iconst {n : Int} {v : Int32} (hv : Int32.ofInt n = v) (hC : Cx G C Y R0) (hd : decode Y.2.1 pc = .ok (.iconst n, 1)) (k : Ev G C Y (pc + 1) L (.int v :: S) cl sl es) : Ev G C Y pc L (S) cl sl es := by
  obtain ⟨p, e, R, s, m, args, below, meth, c, Q⟩ := C
  exact fun H locs ls hl hw hS => lv_iconst hC.1 hC.2.1 hd hv (k H locs ls hl hw hS)
theorem ev_bipush {n : Int} {v : Int32} (hv : (Int8.ofInt n).toInt32 = v) (hC : Cx G C Y R0) (hd : decode Y.2.1 pc = .ok (.bipush n, 2)) (k : Ev G C Y (pc + 2) L (.int v :: S) cl sl es) : Ev G C Y pc L (S) cl sl es := by
  obtain ⟨p, e, R, s, m, args, below, meth, c, Q⟩ := C
  exact fun H locs ls hl hw hS => lv_bipush hC.1 hC.2.1 hd hv (k H locs ls hl hw hS)
theorem ev_sipush {n : Int} {v : Int32} (hv : (Int16.ofInt n).toInt32 = v) (hC : Cx G C Y R0) (hd : decode Y.2.1 pc = .ok (.sipush n, 3)) (k : Ev G C Y (pc + 3) L (.int v :: S) cl sl es) : Ev G C Y pc L (S) cl sl es := by
  obtain ⟨p, e, R, s, m, args, below, meth, c, Q⟩ := C
  exact fun H locs ls hl hw hS => lv_sipush hC.1 hC.2.1 hd hv (k H locs ls hl hw hS)
theorem ev_lconst {n : Fin 2} {v : Int64} (hv : Int64.ofNat (n : Nat) = v) (hC : Cx G C Y R0) (hd : decode Y.2.1 pc = .ok (.lconst n, 1)) (k : Ev G C Y (pc + 1) L (.long v :: S) cl sl es) : Ev G C Y pc L (S) cl sl es := by
  obtain ⟨p, e, R, s, m, args, below, meth, c, Q⟩ := C
  exact fun H locs ls hl hw hS => lv_lconst hC.1 hC.2.1 hd hv (k H locs ls hl hw hS)
theorem ev_ldc {idx : Nat} {v : Int32} (hk : Cond.constant Y.1.cls idx v ∈ ex_tb) (hC : Cx G C Y R0) (hd : decode Y.2.1 pc = .ok (.ldc idx, 2)) (k : Ev G C Y (pc + 2) L (.int v :: S) cl sl es) : Ev G C Y pc L (S) cl sl es := by
  obtain ⟨p, e, R, s, m, args, below, meth, c, Q⟩ := C
  exact fun H locs ls hl hw hS => lv_ldc hC.1 hC.2.1 hC.2.2.2.1 (hC.2.2.2.2.1 _ hk) hd (k H locs ls hl hw hS)
theorem ev_ldcw {idx : Nat} {v : Int32} (hk : Cond.constant Y.1.cls idx v ∈ ex_tb) (hC : Cx G C Y R0) (hd : decode Y.2.1 pc = .ok (.ldc_w idx, 3)) (k : Ev G C Y (pc + 3) L (.int v :: S) cl sl es) : Ev G C Y pc L (S) cl sl es := by
  obtain ⟨p, e, R, s, m, args, below, meth, c, Q⟩ := C
  exact fun H locs ls hl hw hS => lv_ldcw hC.1 hC.2.1 hC.2.2.2.1 (hC.2.2.2.2.1 _ hk) hd (k H locs ls hl hw hS)
theorem ev_ldc2 {idx : Nat} {v : Int64} (hk : Cond.constantLong Y.1.cls idx v ∈ ex_tb) (hC : Cx G C Y R0) (hd : decode Y.2.1 pc = .ok (.ldc2_w idx, 3)) (k : Ev G C Y (pc + 3) L (.long v :: S) cl sl es) : Ev G C Y pc L (S) cl sl es := by
  obtain ⟨p, e, R, s, m, args, below, meth, c, Q⟩ := C
  exact fun H locs ls hl hw hS => W.ldc2 hC.1 hC.2.1 hC.2.2.2.1 (hC.2.2.2.2.1 _ hk) rfl hd (k H locs ls hl hw hS)
theorem ev_ldcS {idx i : Nat} {tx : String} (hk : (Y.1.cls, idx, tx, i) ∈ ck_refs) (hC : Cx G C Y R0) (hd : decode Y.2.1 pc = .ok (.ldc idx, 2)) (k : Ev G C Y (pc + 2) L (.ref (ex_sK G i) :: S) cl sl es) : Ev G C Y pc L (S) cl sl es := by
  obtain ⟨p, e, R, s, m, args, below, meth, c, Q⟩ := C
  exact fun H locs ls hl hw hS => va_ldcS hC.1 hC.2.1 hC.2.2.2.1 (hC.2.2.2.2.2.2.2.2.2.2 _ hk) hd (k H locs ls hl hw hS)
theorem ev_iload_n {i : Fin 4} {x : Int32} (hi : ex_lk L i = some (.int x)) (hC : Cx G C Y R0) (hd : decode Y.2.1 pc = .ok (.iload_n i, 1)) (k : Ev G C Y (pc + 1) L (.int x :: S) cl sl es) : Ev G C Y pc L (S) cl sl es := by
  obtain ⟨p, e, R, s, m, args, below, meth, c, Q⟩ := C
  exact fun H locs ls hl hw hS => lv_iload_n hC.1 hC.2.1 hd rfl (ex_has_at hl hi) (k H locs ls hl hw hS)
theorem ev_iload {i : Nat} {x : Int32} (hi : ex_lk L i = some (.int x)) (hC : Cx G C Y R0) (hd : decode Y.2.1 pc = .ok (.iload i, 2)) (k : Ev G C Y (pc + 2) L (.int x :: S) cl sl es) : Ev G C Y pc L (S) cl sl es := by
  obtain ⟨p, e, R, s, m, args, below, meth, c, Q⟩ := C
  exact fun H locs ls hl hw hS => lv_iload hC.1 hC.2.1 hd (ex_has_at hl hi) (k H locs ls hl hw hS)
theorem ev_lload_n {i : Fin 4} {x : Int64} (hi : ex_lk L i = some (.long x)) (hC : Cx G C Y R0) (hd : decode Y.2.1 pc = .ok (.lload_n i, 1)) (k : Ev G C Y (pc + 1) L (.long x :: S) cl sl es) : Ev G C Y pc L (S) cl sl es := by
  obtain ⟨p, e, R, s, m, args, below, meth, c, Q⟩ := C
  exact fun H locs ls hl hw hS => lv_lload_n hC.1 hC.2.1 hd rfl (ex_has_at hl hi) (k H locs ls hl hw hS)
theorem ev_lload {i : Nat} {x : Int64} (hi : ex_lk L i = some (.long x)) (hC : Cx G C Y R0) (hd : decode Y.2.1 pc = .ok (.lload i, 2)) (k : Ev G C Y (pc + 2) L (.long x :: S) cl sl es) : Ev G C Y pc L (S) cl sl es := by
  obtain ⟨p, e, R, s, m, args, below, meth, c, Q⟩ := C
  exact fun H locs ls hl hw hS => lv_lload hC.1 hC.2.1 hd (ex_has_at hl hi) (k H locs ls hl hw hS)
theorem ev_aload_n {i : Fin 4} {x : Nat} (hi : ex_lk L i = some (.ref x)) (hC : Cx G C Y R0) (hd : decode Y.2.1 pc = .ok (.aload_n i, 1)) (k : Ev G C Y (pc + 1) L (.ref x :: S) cl sl es) : Ev G C Y pc L (S) cl sl es := by
  obtain ⟨p, e, R, s, m, args, below, meth, c, Q⟩ := C
  exact fun H locs ls hl hw hS => lv_aload_n hC.1 hC.2.1 hd rfl (ex_has_at hl hi) (k H locs ls hl hw hS)
theorem ev_aload {i : Nat} {x : Nat} (hi : ex_lk L i = some (.ref x)) (hC : Cx G C Y R0) (hd : decode Y.2.1 pc = .ok (.aload i, 2)) (k : Ev G C Y (pc + 2) L (.ref x :: S) cl sl es) : Ev G C Y pc L (S) cl sl es := by
  obtain ⟨p, e, R, s, m, args, below, meth, c, Q⟩ := C
  exact fun H locs ls hl hw hS => lv_aload hC.1 hC.2.1 hd (ex_has_at hl hi) (k H locs ls hl hw hS)
theorem ev_istore_n {i : Fin 4} {x : Int32} (hn : ((i : Nat) : Nat) < Y.2.2.1) (hC : Cx G C Y R0) (hd : decode Y.2.1 pc = .ok (.istore_n i, 1)) (k : Ev G C Y (pc + 1) (ex_st L i (.int x)) (S) cl sl es) : Ev G C Y pc L (.int x :: S) cl sl es := by
  obtain ⟨p, e, R, s, m, args, below, meth, c, Q⟩ := C
  exact fun H locs ls hl hw hS => lv_istore_n hC.1 hC.2.1 hd rfl hl hn rfl (fun ls2 hl2 => k H locs ls2 (ex_has_st hl2) hw hS)
theorem ev_istore {i : Nat} {x : Int32} (hn : i < Y.2.2.1) (hC : Cx G C Y R0) (hd : decode Y.2.1 pc = .ok (.istore i, 2)) (k : Ev G C Y (pc + 2) (ex_st L i (.int x)) (S) cl sl es) : Ev G C Y pc L (.int x :: S) cl sl es := by
  obtain ⟨p, e, R, s, m, args, below, meth, c, Q⟩ := C
  exact fun H locs ls hl hw hS => lv_istore hC.1 hC.2.1 hd hl hn rfl (fun ls2 hl2 => k H locs ls2 (ex_has_st hl2) hw hS)
theorem ev_astore_n {i : Fin 4} {x : Nat} (hn : ((i : Nat) : Nat) < Y.2.2.1) (hC : Cx G C Y R0) (hd : decode Y.2.1 pc = .ok (.astore_n i, 1)) (k : Ev G C Y (pc + 1) (ex_st L i (.ref x)) (S) cl sl es) : Ev G C Y pc L (.ref x :: S) cl sl es := by
  obtain ⟨p, e, R, s, m, args, below, meth, c, Q⟩ := C
  exact fun H locs ls hl hw hS => lv_astore_n hC.1 hC.2.1 hd rfl hl hn rfl (fun ls2 hl2 => k H locs ls2 (ex_has_st hl2) hw hS)
theorem ev_astore {i : Nat} {x : Nat} (hn : i < Y.2.2.1) (hC : Cx G C Y R0) (hd : decode Y.2.1 pc = .ok (.astore i, 2)) (k : Ev G C Y (pc + 2) (ex_st L i (.ref x)) (S) cl sl es) : Ev G C Y pc L (.ref x :: S) cl sl es := by
  obtain ⟨p, e, R, s, m, args, below, meth, c, Q⟩ := C
  exact fun H locs ls hl hw hS => lv_astore hC.1 hC.2.1 hd hl hn rfl (fun ls2 hl2 => k H locs ls2 (ex_has_st hl2) hw hS)
theorem ev_lstore_n {i : Fin 4} {x : Int64} (hn : ((i : Nat) + 1 : Nat) < Y.2.2.1) (hC : Cx G C Y R0) (hd : decode Y.2.1 pc = .ok (.lstore_n i, 1)) (k : Ev G C Y (pc + 1) (ex_stL L i (.long x)) (S) cl sl es) : Ev G C Y pc L (.long x :: S) cl sl es := by
  obtain ⟨p, e, R, s, m, args, below, meth, c, Q⟩ := C
  exact fun H locs ls hl hw hS => lv_lstore_n hC.1 hC.2.1 hd rfl hl hn rfl (fun ls2 hl2 => k H locs ls2 (ex_has_stL hl2) hw hS)
theorem ev_lstore {i : Nat} {x : Int64} (hn : i + 1 < Y.2.2.1) (hC : Cx G C Y R0) (hd : decode Y.2.1 pc = .ok (.lstore i, 2)) (k : Ev G C Y (pc + 2) (ex_stL L i (.long x)) (S) cl sl es) : Ev G C Y pc L (.long x :: S) cl sl es := by
  obtain ⟨p, e, R, s, m, args, below, meth, c, Q⟩ := C
  exact fun H locs ls hl hw hS => lv_lstore hC.1 hC.2.1 hd hl hn rfl (fun ls2 hl2 => k H locs ls2 (ex_has_stL hl2) hw hS)
theorem ev_iinc {i : Nat} {n : Int} {x : Int32} (hi : ex_lk L i = some (.int x)) (hn : i < Y.2.2.1) {v : Int32} (hv : x + Int32.ofInt n = v) (hC : Cx G C Y R0) (hd : decode Y.2.1 pc = .ok (.iinc i n, 3)) (k : Ev G C Y (pc + 3) (ex_st L i (.int v)) S cl sl es) : Ev G C Y pc L S cl sl es := by
  obtain ⟨p, e, R, s, m, args, below, meth, c, Q⟩ := C
  intro H locs ls hl hw hS
  obtain ⟨j, hj⟩ := List.mem_iff_getElem?.mp (ex_ll_lk L 0 i _ hi)
  rw [Nat.zero_add] at hj
  exact lv_iinc hC.1 hC.2.1 hd hl hj hv hn rfl (fun ls2 hl2 => k H locs ls2 (ex_has_st hl2) hw hS)
theorem ev_if_eq {x : Int32} {off : Int} (tgt : Nat) (hC : Cx G C Y R0) (hd : decode Y.2.1 pc = .ok (.ifCond .eq off, 3)) (ht : (pc : Int) + off = (tgt : Int)) (kt : x = 0 → Ev G C Y tgt L S cl sl es) (kf : ¬ x = 0 → Ev G C Y (pc + 3) L S cl sl es) : Ev G C Y pc L (.int x :: S) cl sl es := by
  obtain ⟨p, e, R, s, m, args, below, meth, c, Q⟩ := C
  exact fun H locs ls hl hw hS => lv_if_eq hC.1 hC.2.1 hd ht (fun h => kt h H locs ls hl hw hS) (fun h => kf h H locs ls hl hw hS)
theorem ev_icmp_eq {x y : Int32} {off : Int} (tgt : Nat) (hC : Cx G C Y R0) (hd : decode Y.2.1 pc = .ok (.if_icmp .eq off, 3)) (ht : (pc : Int) + off = (tgt : Int)) (kt : x = y → Ev G C Y tgt L S cl sl es) (kf : ¬ x = y → Ev G C Y (pc + 3) L S cl sl es) : Ev G C Y pc L (.int y :: .int x :: S) cl sl es := by
  obtain ⟨p, e, R, s, m, args, below, meth, c, Q⟩ := C
  exact fun H locs ls hl hw hS => lv_icmp_eq hC.1 hC.2.1 hd ht (fun h => kt h H locs ls hl hw hS) (fun h => kf h H locs ls hl hw hS)
theorem ev_if_ne {x : Int32} {off : Int} (tgt : Nat) (hC : Cx G C Y R0) (hd : decode Y.2.1 pc = .ok (.ifCond .ne off, 3)) (ht : (pc : Int) + off = (tgt : Int)) (kt : ¬ x = 0 → Ev G C Y tgt L S cl sl es) (kf : x = 0 → Ev G C Y (pc + 3) L S cl sl es) : Ev G C Y pc L (.int x :: S) cl sl es := by
  obtain ⟨p, e, R, s, m, args, below, meth, c, Q⟩ := C
  exact fun H locs ls hl hw hS => lv_if_ne hC.1 hC.2.1 hd ht (fun h => kt h H locs ls hl hw hS) (fun h => kf h H locs ls hl hw hS)
theorem ev_icmp_ne {x y : Int32} {off : Int} (tgt : Nat) (hC : Cx G C Y R0) (hd : decode Y.2.1 pc = .ok (.if_icmp .ne off, 3)) (ht : (pc : Int) + off = (tgt : Int)) (kt : ¬ x = y → Ev G C Y tgt L S cl sl es) (kf : x = y → Ev G C Y (pc + 3) L S cl sl es) : Ev G C Y pc L (.int y :: .int x :: S) cl sl es := by
  obtain ⟨p, e, R, s, m, args, below, meth, c, Q⟩ := C
  exact fun H locs ls hl hw hS => lv_icmp_ne hC.1 hC.2.1 hd ht (fun h => kt h H locs ls hl hw hS) (fun h => kf h H locs ls hl hw hS)
theorem ev_if_lt {x : Int32} {off : Int} (tgt : Nat) (hC : Cx G C Y R0) (hd : decode Y.2.1 pc = .ok (.ifCond .lt off, 3)) (ht : (pc : Int) + off = (tgt : Int)) (kt : x < 0 → Ev G C Y tgt L S cl sl es) (kf : ¬ x < 0 → Ev G C Y (pc + 3) L S cl sl es) : Ev G C Y pc L (.int x :: S) cl sl es := by
  obtain ⟨p, e, R, s, m, args, below, meth, c, Q⟩ := C
  exact fun H locs ls hl hw hS => lv_if_lt hC.1 hC.2.1 hd ht (fun h => kt h H locs ls hl hw hS) (fun h => kf h H locs ls hl hw hS)
theorem ev_icmp_lt {x y : Int32} {off : Int} (tgt : Nat) (hC : Cx G C Y R0) (hd : decode Y.2.1 pc = .ok (.if_icmp .lt off, 3)) (ht : (pc : Int) + off = (tgt : Int)) (kt : x < y → Ev G C Y tgt L S cl sl es) (kf : ¬ x < y → Ev G C Y (pc + 3) L S cl sl es) : Ev G C Y pc L (.int y :: .int x :: S) cl sl es := by
  obtain ⟨p, e, R, s, m, args, below, meth, c, Q⟩ := C
  exact fun H locs ls hl hw hS => lv_icmp_lt hC.1 hC.2.1 hd ht (fun h => kt h H locs ls hl hw hS) (fun h => kf h H locs ls hl hw hS)
theorem ev_if_ge {x : Int32} {off : Int} (tgt : Nat) (hC : Cx G C Y R0) (hd : decode Y.2.1 pc = .ok (.ifCond .ge off, 3)) (ht : (pc : Int) + off = (tgt : Int)) (kt : 0 ≤ x → Ev G C Y tgt L S cl sl es) (kf : ¬ 0 ≤ x → Ev G C Y (pc + 3) L S cl sl es) : Ev G C Y pc L (.int x :: S) cl sl es := by
  obtain ⟨p, e, R, s, m, args, below, meth, c, Q⟩ := C
  exact fun H locs ls hl hw hS => lv_if_ge hC.1 hC.2.1 hd ht (fun h => kt h H locs ls hl hw hS) (fun h => kf h H locs ls hl hw hS)
theorem ev_icmp_ge {x y : Int32} {off : Int} (tgt : Nat) (hC : Cx G C Y R0) (hd : decode Y.2.1 pc = .ok (.if_icmp .ge off, 3)) (ht : (pc : Int) + off = (tgt : Int)) (kt : y ≤ x → Ev G C Y tgt L S cl sl es) (kf : ¬ y ≤ x → Ev G C Y (pc + 3) L S cl sl es) : Ev G C Y pc L (.int y :: .int x :: S) cl sl es := by
  obtain ⟨p, e, R, s, m, args, below, meth, c, Q⟩ := C
  exact fun H locs ls hl hw hS => lv_icmp_ge hC.1 hC.2.1 hd ht (fun h => kt h H locs ls hl hw hS) (fun h => kf h H locs ls hl hw hS)
theorem ev_if_gt {x : Int32} {off : Int} (tgt : Nat) (hC : Cx G C Y R0) (hd : decode Y.2.1 pc = .ok (.ifCond .gt off, 3)) (ht : (pc : Int) + off = (tgt : Int)) (kt : 0 < x → Ev G C Y tgt L S cl sl es) (kf : ¬ 0 < x → Ev G C Y (pc + 3) L S cl sl es) : Ev G C Y pc L (.int x :: S) cl sl es := by
  obtain ⟨p, e, R, s, m, args, below, meth, c, Q⟩ := C
  exact fun H locs ls hl hw hS => lv_if_gt hC.1 hC.2.1 hd ht (fun h => kt h H locs ls hl hw hS) (fun h => kf h H locs ls hl hw hS)
theorem ev_icmp_gt {x y : Int32} {off : Int} (tgt : Nat) (hC : Cx G C Y R0) (hd : decode Y.2.1 pc = .ok (.if_icmp .gt off, 3)) (ht : (pc : Int) + off = (tgt : Int)) (kt : y < x → Ev G C Y tgt L S cl sl es) (kf : ¬ y < x → Ev G C Y (pc + 3) L S cl sl es) : Ev G C Y pc L (.int y :: .int x :: S) cl sl es := by
  obtain ⟨p, e, R, s, m, args, below, meth, c, Q⟩ := C
  exact fun H locs ls hl hw hS => lv_icmp_gt hC.1 hC.2.1 hd ht (fun h => kt h H locs ls hl hw hS) (fun h => kf h H locs ls hl hw hS)
theorem ev_if_le {x : Int32} {off : Int} (tgt : Nat) (hC : Cx G C Y R0) (hd : decode Y.2.1 pc = .ok (.ifCond .le off, 3)) (ht : (pc : Int) + off = (tgt : Int)) (kt : x ≤ 0 → Ev G C Y tgt L S cl sl es) (kf : ¬ x ≤ 0 → Ev G C Y (pc + 3) L S cl sl es) : Ev G C Y pc L (.int x :: S) cl sl es := by
  obtain ⟨p, e, R, s, m, args, below, meth, c, Q⟩ := C
  exact fun H locs ls hl hw hS => lv_if_le hC.1 hC.2.1 hd ht (fun h => kt h H locs ls hl hw hS) (fun h => kf h H locs ls hl hw hS)
theorem ev_icmp_le {x y : Int32} {off : Int} (tgt : Nat) (hC : Cx G C Y R0) (hd : decode Y.2.1 pc = .ok (.if_icmp .le off, 3)) (ht : (pc : Int) + off = (tgt : Int)) (kt : x ≤ y → Ev G C Y tgt L S cl sl es) (kf : ¬ x ≤ y → Ev G C Y (pc + 3) L S cl sl es) : Ev G C Y pc L (.int y :: .int x :: S) cl sl es := by
  obtain ⟨p, e, R, s, m, args, below, meth, c, Q⟩ := C
  exact fun H locs ls hl hw hS => lv_icmp_le hC.1 hC.2.1 hd ht (fun h => kt h H locs ls hl hw hS) (fun h => kf h H locs ls hl hw hS)
theorem ev_goto {off : Int} (tgt : Nat) (hC : Cx G C Y R0) (hd : decode Y.2.1 pc = .ok (.goto off, 3)) (ht : (pc : Int) + off = (tgt : Int)) (k : Ev G C Y tgt L S cl sl es) : Ev G C Y pc L S cl sl es := by
  obtain ⟨p, e, R, s, m, args, below, meth, c, Q⟩ := C
  exact fun H locs ls hl hw hS => lv_goto hC.1 hC.2.1 hd ht (k H locs ls hl hw hS)
theorem ev_tabIn {dflt lo hi : Int} {offs : Array Int} {len : Nat} {x : Int32} {off : Int} (tgt : Nat) (hC : Cx G C Y R0) (hd : decode Y.2.1 pc = .ok (.tableswitch dflt lo hi offs, len)) (h1 : ¬ x.toInt < lo) (h2 : ¬ hi < x.toInt) (ho : offs[(x.toInt - lo).toNat]? = some off) (ht : (pc : Int) + off = (tgt : Int)) (k : Ev G C Y tgt L S cl sl es) : Ev G C Y pc L (.int x :: S) cl sl es := by
  obtain ⟨p, e, R, s, m, args, below, meth, c, Q⟩ := C
  exact fun H locs ls hl hw hS => lv_tableIn hC.1 hC.2.1 hd h1 h2 ho ht (k H locs ls hl hw hS)
theorem ev_tabOut {dflt lo hi : Int} {offs : Array Int} {len : Nat} {x : Int32} (tgt : Nat) (hC : Cx G C Y R0) (hd : decode Y.2.1 pc = .ok (.tableswitch dflt lo hi offs, len)) (h : x.toInt < lo ∨ hi < x.toInt) (ht : (pc : Int) + dflt = (tgt : Int)) (k : Ev G C Y tgt L S cl sl es) : Ev G C Y pc L (.int x :: S) cl sl es := by
  obtain ⟨p, e, R, s, m, args, below, meth, c, Q⟩ := C
  exact fun H locs ls hl hw hS => lv_tableOut hC.1 hC.2.1 hd h ht (k H locs ls hl hw hS)
theorem ev_look {dflt : Int} {ps : Array (Int × Int)} {len : Nat} {x : Int32} {off : Int} (tgt : Nat) (hC : Cx G C Y R0) (hd : decode Y.2.1 pc = .ok (.lookupswitch dflt ps, len)) (hp : (ps.toList.zip (ps.toList.drop 1)).all (fun (a, next) => a.1 < next.1) = true) (ho : Op.lookupswitch.offset ps.toList dflt x.toInt = off) (ht : (pc : Int) + off = (tgt : Int)) (k : Ev G C Y tgt L S cl sl es) : Ev G C Y pc L (.int x :: S) cl sl es := by
  obtain ⟨p, e, R, s, m, args, below, meth, c, Q⟩ := C
  exact fun H locs ls hl hw hS => lv_lookup hC.1 hC.2.1 hd hp ho ht (k H locs ls hl hw hS)
theorem ev_iret {v : Int32} {r : Option Value} {es2 : List va_E} (hC : Cx G C Y R0) (hR : Cr G C Y cl sl r es2) (hd : decode Y.2.1 pc = .ok (.ireturn, 1)) (hrt : Y.2.2.2 = some .int) (hr : r = some (.int v)) (he : es2 = es) : Ev G C Y pc L [.int v] cl sl es := by
  obtain ⟨p, e, R, s, m, args, below, meth, c, Q⟩ := C
  obtain ⟨h1, h2, h3, h4⟩ := hR
  subst h4
  subst hr
  subst he
  exact fun H locs ls hl hw hS => W.iret hC.1 hC.2.1 (h1.trans hrt) (fun t ht _ => ⟨rfl, by rw [ht]; exact hw, hS.F ht⟩) hS.2.2 hd h2
theorem ev_lret {v : Int64} {r : Option Value} {es2 : List va_E} (hC : Cx G C Y R0) (hR : Cr G C Y cl sl r es2) (hd : decode Y.2.1 pc = .ok (.lreturn, 1)) (hrt : Y.2.2.2 = some .long) (hr : r = some (.long v)) (he : es2 = es) : Ev G C Y pc L [.long v] cl sl es := by
  obtain ⟨p, e, R, s, m, args, below, meth, c, Q⟩ := C
  obtain ⟨h1, h2, h3, h4⟩ := hR
  subst h4
  subst hr
  subst he
  exact fun H locs ls hl hw hS => W.lret hC.1 hC.2.1 (h1.trans hrt) (fun t ht _ => ⟨rfl, by rw [ht]; exact hw, hS.F ht⟩) hS.2.2 hd h2
theorem ev_zret {v : Int32} {ty : FieldType} {r : Option Value} {es2 : List va_E} (hC : Cx G C Y R0) (hR : Cr G C Y cl sl r es2) (hd : decode Y.2.1 pc = .ok (.ireturn, 1)) (hrt : Y.2.2.2 = some ty) (hn : narrow ty (.int v) = .int v) (hr : r = some (.int v)) (he : es2 = es) : Ev G C Y pc L [.int v] cl sl es := by
  obtain ⟨p, e, R, s, m, args, below, meth, c, Q⟩ := C
  obtain ⟨h1, h2, h3, h4⟩ := hR
  subst h4
  subst hr
  subst he
  exact fun H locs ls hl hw hS => W.zret hC.1 hC.2.1 (h1.trans hrt) hn (fun t ht _ => ⟨rfl, by rw [ht]; exact hw, hS.F ht⟩) hS.2.2 hd h2
theorem ev_aret {a : Nat} {n : String} {r : Option Value} {es2 : List va_E} (hC : Cx G C Y R0) (hR : Cr G C Y cl sl r es2) (hd : decode Y.2.1 pc = .ok (.areturn, 1)) (hrt : Y.2.2.2 = some (.object n)) (hr : r = some (.ref a)) (he : es2 = es) : Ev G C Y pc L [.ref a] cl sl es := by
  obtain ⟨p, e, R, s, m, args, below, meth, c, Q⟩ := C
  obtain ⟨h1, h2, h3, h4⟩ := hR
  subst h4
  subst hr
  subst he
  exact fun H locs ls hl hw hS => W.aret hC.1 hC.2.1 (h1.trans hrt) (Or.inl ⟨n, rfl⟩) (Or.inr ⟨a, rfl⟩) (fun t ht _ => ⟨rfl, by rw [ht]; exact hw, hS.F ht⟩) hS.2.2 hd h2
theorem ev_vret {r : Option Value} {es2 : List va_E} (hC : Cx G C Y R0) (hR : Cr G C Y cl sl r es2) (hd : decode Y.2.1 pc = .ok (.return_, 1)) (hrt : Y.2.2.2 = none) (hr : r = none) (he : es2 = es) : Ev G C Y pc L [] cl sl es := by
  obtain ⟨p, e, R, s, m, args, below, meth, c, Q⟩ := C
  obtain ⟨h1, h2, h3, h4⟩ := hR
  subst h4
  subst hr
  subst he
  exact fun H locs ls hl hw hS => W.vret hC.1 hC.2.1 (h1.trans hrt) (fun t ht _ => ⟨rfl, by rw [ht]; exact hw, hS.F ht⟩) hS.2.2 hd h2
theorem ev_get {j ci idx k NF : Nat} {N0 : String} {T : u_T} {fs : List Value} {v : Value} (hC : Cx G C Y R0) (hd : decode Y.2.1 pc = .ok (.getfield idx, 3)) (hcl : ex_cl[ci]? = some (N0, T, NF)) (hin : ∀ w ∈ u_ws N0 T NF, w ∈ ex_tb) (hk : Cond.fieldLink Y.1.cls idx N0 (T k).2.1 (T k).2.2.1 ∈ ex_tb) (hself : (T k).1 = N0) (hlt : k < NF) (he : es[j]? = some (.inr (ci, fs))) (hv : fs[k]? = some v) (k2 : Ev G C Y (pc + 3) L (v :: S) cl sl es) : Ev G C Y pc L (.ref (ex_b G + j) :: S) cl sl es := by
  obtain ⟨p, e, R, s, m, args, below, meth, c, Q⟩ := C
  exact fun H locs ls hl hw hS => va_get hC.1 hC.2.1 hC.2.2.2.2.1 hin hC.2.2.2.1 hC.2.2.2.2.2.2.1 hw.1 j (ex_wl_get he) hcl k hlt (hC.2.2.2.2.1 _ hk) (by rw [hself]; exact fun _ h => h) hv hd (k2 H locs ls hl hw hS)
theorem ev_getN {j ci idx k NF : Nat} {N0 : String} {T : u_T} {fs : List Value} {v : Value} (hC : Cx G C Y R0) (hd : decode Y.2.1 pc = .ok (.getfield idx, 3)) (hcl : ex_cl[ci]? = some (N0, T, NF)) (hin : ∀ w ∈ u_ws N0 T NF, w ∈ ex_tb) (hk : Cond.fieldLinkNest Y.1.cls idx N0 (T k).2.1 (T k).2.2.1 "DayBehind" ∈ lw_tbl) (hself : (T k).1 = N0) (hlt : k < NF) (he : es[j]? = some (.inr (ci, fs))) (hv : fs[k]? = some v) (k2 : Ev G C Y (pc + 3) L (v :: S) cl sl es) : Ev G C Y pc L (.ref (ex_b G + j) :: S) cl sl es := by
  obtain ⟨p, e, R, s, m, args, below, meth, c, Q⟩ := C
  exact fun H locs ls hl hw hS => va_getN hC.1 hC.2.1 hC.2.2.2.2.1 hin hC.2.2.2.1 hC.2.2.2.2.2.2.1 hw.1 j (ex_wl_get he) hcl k hlt (va_Nw.use rfl (hC.2.2.2.2.2.2.2.2.2.1 _ hk rfl)) (by rw [hself]; exact fun _ h => h) hv hd (k2 H locs ls hl hw hS)
theorem ev_put {j ci idx k NF : Nat} {N0 : String} {T : u_T} {fs : List Value} {v : Value} {ty : FieldType} (ty0 : Nat → FieldType) (hty : ∀ k, k < NF → parseFieldDescriptor (T k).2.2.1 = some (ty0 k)) (hnm : ∀ a, a < NF → ∀ b, b < NF → a ≠ b → (T a).2.1 ≠ (T b).2.1) (hC : Cx G C Y R0) (hd : decode Y.2.1 pc = .ok (.putfield idx, 3)) (hcl : ex_cl[ci]? = some (N0, T, NF)) (hin : ∀ w ∈ u_ws N0 T NF, w ∈ ex_tb) (hk : Cond.fieldLink Y.1.cls idx N0 (T k).2.1 (T k).2.2.1 ∈ ex_tb) (hself : (T k).1 = N0) (hlt : k < NF) (hfin : (T k).2.2.2 = false) (hpd : parseFieldDescriptor (T k).2.2.1 = some ty) (hn : narrow ty v = v) (hfit : fits ty v = true) (he : es[j]? = some (.inr (ci, fs))) (hfs : k < fs.length) (k2 : Ev G C Y (pc + 3) L S cl sl (es.set j (.inr (ci, fs.set k v)))) : Ev G C Y pc L (v :: .ref (ex_b G + j) :: S) cl sl es := by
  obtain ⟨p, e, R, s, m, args, below, meth, c, Q⟩ := C
  intro H locs ls hl hw hS
  have hap := va_apart (own := Y.1.cls) hC.2.2.2.2.1 hin ty0 hty hnm hC.2.2.2.2.2.2.1 hcl
  have hP := hw.1
  have hD := ex_wl_D G es
  have he2 := ex_wl_get (b := ex_b G) he
  obtain ⟨r, h1, cell, q1, q2, q3, q4⟩ := hP j _ he2
  have hr : r = (N0, T, NF) := Option.some.inj (h1.symm.trans hcl)
  subst hr
  obtain ⟨hSl, hfc, kC, hkC, hkind⟩ := hC.2.2.2.2.2.2.1.1 ci _ hcl
  obtain ⟨cf, kf, fi, f, hi, hsl⟩ := hSl k hlt
  have hlay := hC.2.2.2.2.1 _ (hin _ (u_in_lay hlt))
  unfold u_lay at hlay
  rw [if_neg (by rw [hfin]; decide)] at hlay
  have hst := (u_facts hfc hkC (u_lays hC.2.2.2.2.1 hin hlt) hi).1
  have h6 := u_store hfc hkC hkind hlay hi hpd hn hfit
  refine W.putK hC.1 hC.2.1 (f := f) ⟨hC.2.2.2.1, (hC.2.2.2.2.1 _ hk), ⟨_, _, _, by rw [hself] at hi; exact hi⟩, hst⟩ (by rw [q2]; exact h6) q1 q3 (by rw [hsl]; exact k2_hasslot (q4 k hlt)) rfl rfl hd fun H2 e1 e2 e3 => ?_
  rw [hsl] at e1
  rw [hsl]
  refine k2 H2 _ ls hl ⟨?_, fun z => by rw [e2, List.length_set]; rw [List.length_set] at z; exact hw.2 z⟩ (hS.put e2 e3 (hD.2 j _ he2))
  rw [← ex_wl_set]
  exact hP.set hD he2 ⟨_, hcl, t_OB.to (V := updV (vp_V fs) k v) ⟨_, e1, q2, q3, t_set q4 hap hlt v⟩ (fun i _ => vp_updV_set hfs v i)⟩ e3
theorem ev_putN {j ci idx k NF : Nat} {N0 : String} {T : u_T} {fs : List Value} {v : Value} {ty : FieldType} (ty0 : Nat → FieldType) (hty : ∀ k, k < NF → parseFieldDescriptor (T k).2.2.1 = some (ty0 k)) (hnm : ∀ a, a < NF → ∀ b, b < NF → a ≠ b → (T a).2.1 ≠ (T b).2.1) (hC : Cx G C Y R0) (hd : decode Y.2.1 pc = .ok (.putfield idx, 3)) (hcl : ex_cl[ci]? = some (N0, T, NF)) (hin : ∀ w ∈ u_ws N0 T NF, w ∈ ex_tb) (hk : Cond.fieldLinkNest Y.1.cls idx N0 (T k).2.1 (T k).2.2.1 "DayBehind" ∈ lw_tbl) (hself : (T k).1 = N0) (hlt : k < NF) (hfin : (T k).2.2.2 = false) (hpd : parseFieldDescriptor (T k).2.2.1 = some ty) (hn : narrow ty v = v) (hfit : fits ty v = true) (he : es[j]? = some (.inr (ci, fs))) (hfs : k < fs.length) (k2 : Ev G C Y (pc + 3) L S cl sl (es.set j (.inr (ci, fs.set k v)))) : Ev G C Y pc L (v :: .ref (ex_b G + j) :: S) cl sl es := by
  obtain ⟨p, e, R, s, m, args, below, meth, c, Q⟩ := C
  intro H locs ls hl hw hS
  have hap := va_apart (own := Y.1.cls) hC.2.2.2.2.1 hin ty0 hty hnm hC.2.2.2.2.2.2.1 hcl
  have hP := hw.1
  have hD := ex_wl_D G es
  have he2 := ex_wl_get (b := ex_b G) he
  obtain ⟨r, h1, cell, q1, q2, q3, q4⟩ := hP j _ he2
  have hr : r = (N0, T, NF) := Option.some.inj (h1.symm.trans hcl)
  subst hr
  obtain ⟨hSl, hfc, kC, hkC, hkind⟩ := hC.2.2.2.2.2.2.1.1 ci _ hcl
  obtain ⟨cf, kf, fi, f, hi, hsl⟩ := hSl k hlt
  have hlay := hC.2.2.2.2.1 _ (hin _ (u_in_lay hlt))
  unfold u_lay at hlay
  rw [if_neg (by rw [hfin]; decide)] at hlay
  have hst := (u_facts hfc hkC (u_lays hC.2.2.2.2.1 hin hlt) hi).1
  have h6 := u_store hfc hkC hkind hlay hi hpd hn hfit
  refine va_WputK hC.1 hC.2.1 (f := f) hC.2.2.2.1 (va_Nw.use rfl (hC.2.2.2.2.2.2.2.2.2.1 _ hk rfl)) (by rw [hself] at hi; exact hi) hst (by rw [q2]; exact h6) q1 q3 (by rw [hsl]; exact k2_hasslot (q4 k hlt)) rfl rfl hd fun H2 e1 e2 e3 => ?_
  rw [hsl] at e1
  rw [hsl]
  refine k2 H2 _ ls hl ⟨?_, fun z => by rw [e2, List.length_set]; rw [List.length_set] at z; exact hw.2 z⟩ (hS.put e2 e3 (hD.2 j _ he2))
  rw [← ex_wl_set]
  exact hP.set hD he2 ⟨_, hcl, t_OB.to (V := updV (vp_V fs) k v) ⟨_, e1, q2, q3, t_set q4 hap hlt v⟩ (fun i _ => vp_updV_set hfs v i)⟩ e3
theorem ev_putF {j ci idx k NF mc ms : Nat} {N0 : String} {T : u_T} {fs : List Value} {v : Value} {ty : FieldType} {r0 : Option Value} {es0 : List va_E} (ty0 : Nat → FieldType) (hty : ∀ k, k < NF → parseFieldDescriptor (T k).2.2.1 = some (ty0 k)) (hnm : ∀ a, a < NF → ∀ b, b < NF → a ≠ b → (T a).2.1 ≠ (T b).2.1) (hC : Cx G C Y R0) (hR : Cr G C Y mc ms r0 es0) (hini : Y.1.name = "<init>") (hown : Y.1.cls = N0) (hd : decode Y.2.1 pc = .ok (.putfield idx, 3)) (hcl : ex_cl[ci]? = some (N0, T, NF)) (hin : ∀ w ∈ u_ws N0 T NF, w ∈ ex_tb) (hk : Cond.fieldLink Y.1.cls idx N0 (T k).2.1 (T k).2.2.1 ∈ ex_tb) (hself : (T k).1 = N0) (hlt : k < NF) (hfin : (T k).2.2.2 = true) (hpd : parseFieldDescriptor (T k).2.2.1 = some ty) (hn : narrow ty v = v) (hfit : fits ty v = true) (he : es[j]? = some (.inr (ci, fs))) (hfs : k < fs.length) (k2 : Ev G C Y (pc + 3) L S cl sl (es.set j (.inr (ci, fs.set k v)))) : Ev G C Y pc L (v :: .ref (ex_b G + j) :: S) cl sl es := by
  obtain ⟨p, e, R, s, m, args, below, meth, c, Q⟩ := C
  intro H locs ls hl hw hS
  have hap := va_apart (own := Y.1.cls) hC.2.2.2.2.1 hin ty0 hty hnm hC.2.2.2.2.2.2.1 hcl
  have hP := hw.1
  have hD := ex_wl_D G es
  have he2 := ex_wl_get (b := ex_b G) he
  obtain ⟨r, h1, cell, q1, q2, q3, q4⟩ := hP j _ he2
  have hr : r = (N0, T, NF) := Option.some.inj (h1.symm.trans hcl)
  subst hr
  obtain ⟨hSl, hfc, kC, hkC, hkind⟩ := hC.2.2.2.2.2.2.1.1 ci _ hcl
  obtain ⟨cf, kf, fi, f, hi, hsl⟩ := hSl k hlt
  have hlay := hC.2.2.2.2.1 _ (hin _ (u_in_lay hlt))
  unfold u_lay at hlay
  rw [if_pos hfin] at hlay
  have hst := (u_facts hfc hkC (u_lays hC.2.2.2.2.1 hin hlt) hi).1
  have hcf : m.cls = cf := by
    obtain ⟨_, _, c', _, _, _, -, -, hf', -, -, -, hown2, -⟩ := Cond.laysFinal_spec hlay
    have e1 : c' = cf := by have := hi.symm.trans hf'; simp at this; exact this.1.symm
    rw [hself, ← hown] at hown2
    rw [← e1]; exact Option.some.inj (hC.2.2.2.1.symm.trans hown2)
  have h6 := u_fits hfc hkC hkind (Or.inr hlay) hi hpd hn hfit
  refine W.putFinK hC.1 hC.2.1 hC.2.2.2.1 (hC.2.2.2.2.1 _ hk) (by rw [hself] at hi; exact hi) hst hcf (hR.2.2.1.trans hini) (by rw [q2]; exact h6) q1 q3 (by rw [hsl]; exact k2_hasslot (q4 k hlt)) rfl rfl hd fun H2 e1 e2 e3 => ?_
  rw [hsl] at e1
  rw [hsl]
  refine k2 H2 _ ls hl ⟨?_, fun z => by rw [e2, List.length_set]; rw [List.length_set] at z; exact hw.2 z⟩ (hS.put e2 e3 (hD.2 j _ he2))
  rw [← ex_wl_set]
  exact hP.set hD he2 ⟨_, hcl, t_OB.to (V := updV (vp_V fs) k v) ⟨_, e1, q2, q3, t_set q4 hap hlt v⟩ (fun i _ => vp_updV_set hfs v i)⟩ e3
theorem ev_iald {j n : Nat} {f : Nat → Int32} {i : Int32} (hC : Cx G C Y R0) (hd : decode Y.2.1 pc = .ok (.iaload, 1)) (he : es[j]? = some (.inl (ex_c G 0, n, .inl f))) (hi : vp_in i n) (k2 : Ev G C Y (pc + 1) L (.int (f i.toNatClampNeg) :: S) cl sl es) : Ev G C Y pc L (.int i :: .ref (ex_b G + j) :: S) cl sl es := by
  obtain ⟨p, e, R, s, m, args, below, meth, c, Q⟩ := C
  exact fun H locs ls hl hw hS => va_iald hC.1 hC.2.1 hC.2.2.2.2.2.2.1 hw.1 j 0 (ex_wl_get he) rfl hi hd (k2 H locs ls hl hw hS)
theorem ev_lald {j n : Nat} {f : Nat → Int64} {i : Int32} (hC : Cx G C Y R0) (hd : decode Y.2.1 pc = .ok (.laload, 1)) (he : es[j]? = some (.inl (ex_c G 1, n, .inr (.inl f)))) (hi : vp_in i n) (k2 : Ev G C Y (pc + 1) L (.long (f i.toNatClampNeg) :: S) cl sl es) : Ev G C Y pc L (.int i :: .ref (ex_b G + j) :: S) cl sl es := by
  obtain ⟨p, e, R, s, m, args, below, meth, c, Q⟩ := C
  exact fun H locs ls hl hw hS => va_lald hC.1 hC.2.1 hC.2.2.2.2.2.2.1 hw.1 j 1 (ex_wl_get he) rfl hi hd (k2 H locs ls hl hw hS)
theorem ev_aald {j n t a : Nat} {N0 : String} {f : Nat → Option Nat} {i : Int32} (hC : Cx G C Y R0) (hd : decode Y.2.1 pc = .ok (.aaload, 1)) (ht : (ex_ty G)[t]? = some (ex_c G t, .object N0)) (he : es[j]? = some (.inl (ex_c G t, n, .inr (.inr (.inr (.inr f)))))) (hi : vp_in i n) (ha : f i.toNatClampNeg = some a) (k2 : Ev G C Y (pc + 1) L (.ref a :: S) cl sl es) : Ev G C Y pc L (.int i :: .ref (ex_b G + j) :: S) cl sl es := by
  obtain ⟨p, e, R, s, m, args, below, meth, c, Q⟩ := C
  exact fun H locs ls hl hw hS => va_aldq hC.1 hC.2.1 hC.2.2.2.2.2.2.1 hw.1 j t (ex_wl_get he) ht hi hd (by rw [ha]; exact k2 H locs ls hl hw hS)
theorem ev_alen {j t : Nat} {x : vp_A} {ty : FieldType} {v : Int32} (hC : Cx G C Y R0) (hd : decode Y.2.1 pc = .ok (.arraylength, 1)) (ht : (ex_ty G)[t]? = some (ex_c G t, ty)) (he : es[j]? = some (.inl (ex_c G t, x))) (hv : Int32.ofNat x.1 = v) (k2 : Ev G C Y (pc + 1) L (.int v :: S) cl sl es) : Ev G C Y pc L (.ref (ex_b G + j) :: S) cl sl es := by
  obtain ⟨p, e, R, s, m, args, below, meth, c, Q⟩ := C
  exact fun H locs ls hl hw hS => va_alen hC.1 hC.2.1 hC.2.2.2.2.2.2.1 hw.1 j t (ex_wl_get he) ht hv hd (k2 H locs ls hl hw hS)
theorem ev_iast {j n : Nat} {f : Nat → Int32} {i x : Int32} (hC : Cx G C Y R0) (hd : decode Y.2.1 pc = .ok (.iastore, 1)) (he : es[j]? = some (.inl (ex_c G 0, n, .inl f))) (hi : vp_in i n) (k2 : Ev G C Y (pc + 1) L S cl sl (es.set j (.inl (ex_c G 0, n, .inl (upd f i.toNatClampNeg x))))) : Ev G C Y pc L (.int x :: .int i :: .ref (ex_b G + j) :: S) cl sl es := by
  obtain ⟨p, e, R, s, m, args, below, meth, c, Q⟩ := C
  intro H locs ls hl hw hS
  have hP := hw.1
  have hD := ex_wl_D G es
  have he2 := ex_wl_get (b := ex_b G) he
  refine W.iast hC.1 hC.2.1 (hP j _ he2) ((hC.2.2.2.2.2.2.1.2 0 _ rfl).1 n (fun j => .int (f j))) (fun q => by cases q) (by show ¬ (i < 0 ∨ (arrV _ _ _).slots.size ≤ _); rw [arrV_size]; exact hi) rfl rfl hd fun H2 e1 e2 e3 => ?_
  refine k2 H2 _ ls hl ⟨?_, fun z => by rw [e2, List.length_set]; rw [List.length_set] at z; exact hw.2 z⟩ (hS.put e2 e3 (hD.2 j _ he2))
  rw [← ex_wl_set]
  refine hP.set hD he2 ?_ e3
  show H2[ex_b G + j]? = some (vp_cell _ _)
  rw [e1]
  rw [vp_cell_i, vp_cell_i, arrV_store]
  congr 2
  funext q
  by_cases hq : q = i.toNatClampNeg
  · subst hq
    simp [updV, upd]
  · simp [updV, upd, hq]
theorem ev_last {j n : Nat} {f : Nat → Int64} {i : Int32} {x : Int64} (hC : Cx G C Y R0) (hd : decode Y.2.1 pc = .ok (.lastore, 1)) (he : es[j]? = some (.inl (ex_c G 1, n, .inr (.inl f)))) (hi : vp_in i n) (k2 : Ev G C Y (pc + 1) L S cl sl (es.set j (.inl (ex_c G 1, n, .inr (.inl (vp_updL f i.toNatClampNeg x)))))) : Ev G C Y pc L (.long x :: .int i :: .ref (ex_b G + j) :: S) cl sl es := by
  obtain ⟨p, e, R, s, m, args, below, meth, c, Q⟩ := C
  intro H locs ls hl hw hS
  have hP := hw.1
  have hD := ex_wl_D G es
  have he2 := ex_wl_get (b := ex_b G) he
  refine W.last hC.1 hC.2.1 (hP j _ he2) ((hC.2.2.2.2.2.2.1.2 1 _ rfl).1 n (fun j => .long (f j))) (fun q => by cases q) (by show ¬ (i < 0 ∨ (arrV _ _ _).slots.size ≤ _); rw [arrV_size]; exact hi) rfl rfl hd fun H2 e1 e2 e3 => ?_
  refine k2 H2 _ ls hl ⟨?_, fun z => by rw [e2, List.length_set]; rw [List.length_set] at z; exact hw.2 z⟩ (hS.put e2 e3 (hD.2 j _ he2))
  rw [← ex_wl_set]
  refine hP.set hD he2 ?_ e3
  show H2[ex_b G + j]? = some (vp_cell _ _)
  rw [e1]
  rw [vp_cell_l, vp_cell_l, arrV_store]
  congr 2
  funext q
  by_cases hq : q = i.toNatClampNeg
  · subst hq
    simp [updV, vp_updL]
  · simp [updV, vp_updL, hq]
end EvRows
