/-! the rows: an instruction each -/
section Rows1
variable {κ : K0} {φ : Fr} {cells slots pc : Nat} {L : List (Option Value)} {st : List Value} {μ : Mem}
theorem V_iconst {n : Int} {v : Int32} (d : decode φ.1.2.1 pc = .ok (.iconst n, 1)) (hv : Int32.ofInt n = v) (k : V κ φ cells slots (pc + 1) L (.int v :: st) μ) : V κ φ cells slots pc L st μ :=
  fun p e s m args below meth c B H locs ls hl hR hS => lv_iconst B.1 B.2.1 d hv (k p e s m args below meth c B H locs ls hl hR hS)
theorem V_bipush {n : Int} {v : Int32} (d : decode φ.1.2.1 pc = .ok (.bipush n, 2)) (hv : (Int8.ofInt n).toInt32 = v) (k : V κ φ cells slots (pc + 2) L (.int v :: st) μ) : V κ φ cells slots pc L st μ :=
  fun p e s m args below meth c B H locs ls hl hR hS => lv_bipush B.1 B.2.1 d hv (k p e s m args below meth c B H locs ls hl hR hS)
theorem V_sipush {n : Int} {v : Int32} (d : decode φ.1.2.1 pc = .ok (.sipush n, 3)) (hv : (Int16.ofInt n).toInt32 = v) (k : V κ φ cells slots (pc + 3) L (.int v :: st) μ) : V κ φ cells slots pc L st μ :=
  fun p e s m args below meth c B H locs ls hl hR hS => lv_sipush B.1 B.2.1 d hv (k p e s m args below meth c B H locs ls hl hR hS)
theorem V_lconst {n : Fin 2} {v : Int64} (d : decode φ.1.2.1 pc = .ok (.lconst n, 1)) (hv : Int64.ofNat (n : Nat) = v) (k : V κ φ cells slots (pc + 1) L (.long v :: st) μ) : V κ φ cells slots pc L st μ :=
  fun p e s m args below meth c B H locs ls hl hR hS => lv_lconst B.1 B.2.1 d hv (k p e s m args below meth c B H locs ls hl hR hS)
theorem V_iload_n {n : Fin 4} {i : Nat} {x : Int32} (d : decode φ.1.2.1 pc = .ok (.iload_n n, 1)) (hi : (n : Nat) = i) (h : L[i]? = some (some (.int x))) (k : V κ φ cells slots (pc + 1) L (.int x :: st) μ) : V κ φ cells slots pc L st μ :=
  fun p e s m args below meth c B H locs ls hl hR hS => lv_iload_n B.1 B.2.1 d hi (hl.2.2 _ _ h) (k p e s m args below meth c B H locs ls hl hR hS)
theorem V_iload {i : Nat} {x : Int32} (d : decode φ.1.2.1 pc = .ok (.iload i, 2)) (h : L[i]? = some (some (.int x))) (k : V κ φ cells slots (pc + 2) L (.int x :: st) μ) : V κ φ cells slots pc L st μ :=
  fun p e s m args below meth c B H locs ls hl hR hS => lv_iload B.1 B.2.1 d (hl.2.2 _ _ h) (k p e s m args below meth c B H locs ls hl hR hS)
theorem V_aload_n {n : Fin 4} {i : Nat} {x : Nat} (d : decode φ.1.2.1 pc = .ok (.aload_n n, 1)) (hi : (n : Nat) = i) (h : L[i]? = some (some (.ref x))) (k : V κ φ cells slots (pc + 1) L (.ref x :: st) μ) : V κ φ cells slots pc L st μ :=
  fun p e s m args below meth c B H locs ls hl hR hS => lv_aload_n B.1 B.2.1 d hi (hl.2.2 _ _ h) (k p e s m args below meth c B H locs ls hl hR hS)
theorem V_aload {i : Nat} {x : Nat} (d : decode φ.1.2.1 pc = .ok (.aload i, 2)) (h : L[i]? = some (some (.ref x))) (k : V κ φ cells slots (pc + 2) L (.ref x :: st) μ) : V κ φ cells slots pc L st μ :=
  fun p e s m args below meth c B H locs ls hl hR hS => lv_aload B.1 B.2.1 d (hl.2.2 _ _ h) (k p e s m args below meth c B H locs ls hl hR hS)
theorem V_lload_n {n : Fin 4} {i : Nat} {x : Int64} (d : decode φ.1.2.1 pc = .ok (.lload_n n, 1)) (hi : (n : Nat) = i) (h : L[i]? = some (some (.long x))) (k : V κ φ cells slots (pc + 1) L (.long x :: st) μ) : V κ φ cells slots pc L st μ :=
  fun p e s m args below meth c B H locs ls hl hR hS => lv_lload_n B.1 B.2.1 d hi (hl.2.2 _ _ h) (k p e s m args below meth c B H locs ls hl hR hS)
theorem V_lload {i : Nat} {x : Int64} (d : decode φ.1.2.1 pc = .ok (.lload i, 2)) (h : L[i]? = some (some (.long x))) (k : V κ φ cells slots (pc + 2) L (.long x :: st) μ) : V κ φ cells slots pc L st μ :=
  fun p e s m args below meth c B H locs ls hl hR hS => lv_lload B.1 B.2.1 d (hl.2.2 _ _ h) (k p e s m args below meth c B H locs ls hl hR hS)
theorem V_dload_n {n : Fin 4} {i : Nat} {x : UInt64} (d : decode φ.1.2.1 pc = .ok (.dload_n n, 1)) (hi : (n : Nat) = i) (h : L[i]? = some (some (.double x))) (k : V κ φ cells slots (pc + 1) L (.double x :: st) μ) : V κ φ cells slots pc L st μ :=
  fun p e s m args below meth c B H locs ls hl hR hS => lv_dload_n B.1 B.2.1 d hi (hl.2.2 _ _ h) (k p e s m args below meth c B H locs ls hl hR hS)
theorem V_dload {i : Nat} {x : UInt64} (d : decode φ.1.2.1 pc = .ok (.dload i, 2)) (h : L[i]? = some (some (.double x))) (k : V κ φ cells slots (pc + 2) L (.double x :: st) μ) : V κ φ cells slots pc L st μ :=
  fun p e s m args below meth c B H locs ls hl hR hS => lv_dload B.1 B.2.1 d (hl.2.2 _ _ h) (k p e s m args below meth c B H locs ls hl hR hS)
theorem V_istore_n {n : Fin 4} {i : Nat} {x : Int32} (d : decode φ.1.2.1 pc = .ok (.istore_n n, 1)) (hi : (n : Nat) = i) (hn : i < φ.1.2.2.1) (k : V κ φ cells slots (pc + 1) (stL i (.int x) L) st μ) : V κ φ cells slots pc L (.int x :: st) μ :=
  fun p e s m args below meth c B H locs ls hl hR hS => lv_istore_n B.1 B.2.1 d hi hl.has hn rfl (fun ls2 hl2 => k p e s m args below meth c B H locs ls2 (lOK.st hl2) hR hS)
theorem V_istore {i : Nat} {x : Int32} (d : decode φ.1.2.1 pc = .ok (.istore i, 2)) (hn : i < φ.1.2.2.1) (k : V κ φ cells slots (pc + 2) (stL i (.int x) L) st μ) : V κ φ cells slots pc L (.int x :: st) μ :=
  fun p e s m args below meth c B H locs ls hl hR hS => lv_istore B.1 B.2.1 d hl.has hn rfl (fun ls2 hl2 => k p e s m args below meth c B H locs ls2 (lOK.st hl2) hR hS)
theorem V_astore_n {n : Fin 4} {i : Nat} {x : Nat} (d : decode φ.1.2.1 pc = .ok (.astore_n n, 1)) (hi : (n : Nat) = i) (hn : i < φ.1.2.2.1) (k : V κ φ cells slots (pc + 1) (stL i (.ref x) L) st μ) : V κ φ cells slots pc L (.ref x :: st) μ :=
  fun p e s m args below meth c B H locs ls hl hR hS => lv_astore_n B.1 B.2.1 d hi hl.has hn rfl (fun ls2 hl2 => k p e s m args below meth c B H locs ls2 (lOK.st hl2) hR hS)
theorem V_astore {i : Nat} {x : Nat} (d : decode φ.1.2.1 pc = .ok (.astore i, 2)) (hn : i < φ.1.2.2.1) (k : V κ φ cells slots (pc + 2) (stL i (.ref x) L) st μ) : V κ φ cells slots pc L (.ref x :: st) μ :=
  fun p e s m args below meth c B H locs ls hl hR hS => lv_astore B.1 B.2.1 d hl.has hn rfl (fun ls2 hl2 => k p e s m args below meth c B H locs ls2 (lOK.st hl2) hR hS)
theorem V_lstore {i : Nat} {x : Int64} (d : decode φ.1.2.1 pc = .ok (.lstore i, 2)) (hn : i + 1 < φ.1.2.2.1) (k : V κ φ cells slots (pc + 2) (stL i (.long x) (noL (i + 1) L)) st μ) : V κ φ cells slots pc L (.long x :: st) μ :=
  fun p e s m args below meth c B H locs ls hl hR hS => lv_lstore B.1 B.2.1 d hl.has hn rfl (fun ls2 hl2 => k p e s m args below meth c B H locs ls2 (lOK.st2 hl2) hR hS)
theorem V_dstore {i : Nat} {x : UInt64} (d : decode φ.1.2.1 pc = .ok (.dstore i, 2)) (hn : i + 1 < φ.1.2.2.1) (k : V κ φ cells slots (pc + 2) (stL i (.double x) (noL (i + 1) L)) st μ) : V κ φ cells slots pc L (.double x :: st) μ :=
  fun p e s m args below meth c B H locs ls hl hR hS => lv_dstore B.1 B.2.1 d hl.has hn rfl (fun ls2 hl2 => k p e s m args below meth c B H locs ls2 (lOK.st2 hl2) hR hS)
theorem V_iinc {i : Nat} {n : Int} {x v : Int32} (d : decode φ.1.2.1 pc = .ok (.iinc i n, 3)) (h : L[i]? = some (some (.int x))) (hv : x + Int32.ofInt n = v) (hn : i < φ.1.2.2.1) (k : V κ φ cells slots (pc + 3) (stL i (.int v) L) st μ) : V κ φ cells slots pc L st μ := by
  intro p e s m args below meth c B H locs ls hl hR hS
  obtain ⟨j, hj⟩ := List.getElem?_of_mem (asc_mem.mpr h)
  exact lv_iinc B.1 B.2.1 d hl.has hj hv hn rfl (fun ls2 hl2 => k p e s m args below meth c B H locs ls2 (lOK.st hl2) hR hS)
theorem V_iadd {x y : Int32} (d : decode φ.1.2.1 pc = .ok (.iadd, 1))  (k : V κ φ cells slots (pc + 1) L (.int (x + y) :: st) μ) : V κ φ cells slots pc L (.int y :: .int x :: st) μ :=
  fun p e s m args below meth c B H locs ls hl hR hS => lv_iadd B.1 B.2.1 d  (k p e s m args below meth c B H locs ls hl hR hS)
theorem V_isub {x y : Int32} (d : decode φ.1.2.1 pc = .ok (.isub, 1))  (k : V κ φ cells slots (pc + 1) L (.int (x - y) :: st) μ) : V κ φ cells slots pc L (.int y :: .int x :: st) μ :=
  fun p e s m args below meth c B H locs ls hl hR hS => lv_isub B.1 B.2.1 d  (k p e s m args below meth c B H locs ls hl hR hS)
theorem V_imul {x y : Int32} (d : decode φ.1.2.1 pc = .ok (.imul, 1))  (k : V κ φ cells slots (pc + 1) L (.int (x * y) :: st) μ) : V κ φ cells slots pc L (.int y :: .int x :: st) μ :=
  fun p e s m args below meth c B H locs ls hl hR hS => lv_imul B.1 B.2.1 d  (k p e s m args below meth c B H locs ls hl hR hS)
theorem V_iand {x y : Int32} (d : decode φ.1.2.1 pc = .ok (.iand, 1))  (k : V κ φ cells slots (pc + 1) L (.int (x &&& y) :: st) μ) : V κ φ cells slots pc L (.int y :: .int x :: st) μ :=
  fun p e s m args below meth c B H locs ls hl hR hS => lv_iand B.1 B.2.1 d  (k p e s m args below meth c B H locs ls hl hR hS)
theorem V_ior {x y : Int32} (d : decode φ.1.2.1 pc = .ok (.ior, 1))  (k : V κ φ cells slots (pc + 1) L (.int (x ||| y) :: st) μ) : V κ φ cells slots pc L (.int y :: .int x :: st) μ :=
  fun p e s m args below meth c B H locs ls hl hR hS => lv_ior B.1 B.2.1 d  (k p e s m args below meth c B H locs ls hl hR hS)
theorem V_ixor {x y : Int32} (d : decode φ.1.2.1 pc = .ok (.ixor, 1))  (k : V κ φ cells slots (pc + 1) L (.int (x ^^^ y) :: st) μ) : V κ φ cells slots pc L (.int y :: .int x :: st) μ :=
  fun p e s m args below meth c B H locs ls hl hR hS => lv_ixor B.1 B.2.1 d  (k p e s m args below meth c B H locs ls hl hR hS)
theorem V_ishl {x y : Int32} (d : decode φ.1.2.1 pc = .ok (.ishl, 1))  (k : V κ φ cells slots (pc + 1) L (.int (x <<< (y &&& 31)) :: st) μ) : V κ φ cells slots pc L (.int y :: .int x :: st) μ :=
  fun p e s m args below meth c B H locs ls hl hR hS => lv_ishl B.1 B.2.1 d  (k p e s m args below meth c B H locs ls hl hR hS)
theorem V_ishr {x y : Int32} (d : decode φ.1.2.1 pc = .ok (.ishr, 1))  (k : V κ φ cells slots (pc + 1) L (.int (x >>> (y &&& 31)) :: st) μ) : V κ φ cells slots pc L (.int y :: .int x :: st) μ :=
  fun p e s m args below meth c B H locs ls hl hR hS => lv_ishr B.1 B.2.1 d  (k p e s m args below meth c B H locs ls hl hR hS)
theorem V_idiv {x y : Int32} (d : decode φ.1.2.1 pc = .ok (.idiv, 1)) (h : ¬ y = 0) (k : V κ φ cells slots (pc + 1) L (.int (x / y) :: st) μ) : V κ φ cells slots pc L (.int y :: .int x :: st) μ :=
  fun p e s m args below meth c B H locs ls hl hR hS => lv_idiv B.1 B.2.1 d h (k p e s m args below meth c B H locs ls hl hR hS)
theorem V_irem {x y : Int32} (d : decode φ.1.2.1 pc = .ok (.irem, 1)) (h : ¬ y = 0) (k : V κ φ cells slots (pc + 1) L (.int (x - x / y * y) :: st) μ) : V κ φ cells slots pc L (.int y :: .int x :: st) μ :=
  fun p e s m args below meth c B H locs ls hl hR hS => lv_irem B.1 B.2.1 d h (k p e s m args below meth c B H locs ls hl hR hS)
theorem V_iushr {x y : Int32} (d : decode φ.1.2.1 pc = .ok (.iushr, 1))  (k : V κ φ cells slots (pc + 1) L (.int (x.toUInt32 >>> (y.toUInt32 &&& Int32.toUInt32 31)).toInt32 :: st) μ) : V κ φ cells slots pc L (.int y :: .int x :: st) μ :=
  fun p e s m args below meth c B H locs ls hl hR hS => lv_iushr B.1 B.2.1 d rfl (k p e s m args below meth c B H locs ls hl hR hS)
theorem V_i2l {x : Int32} (d : decode φ.1.2.1 pc = .ok (.i2l, 1))  (k : V κ φ cells slots (pc + 1) L (.long x.toInt64 :: st) μ) : V κ φ cells slots pc L (.int x :: st) μ :=
  fun p e s m args below meth c B H locs ls hl hR hS => lv_i2l B.1 B.2.1 d rfl (k p e s m args below meth c B H locs ls hl hR hS)
theorem V_i2c {x : Int32} (d : decode φ.1.2.1 pc = .ok (.i2c, 1))  (k : V κ φ cells slots (pc + 1) L (.int (x.toUInt32 % 65536).toInt32 :: st) μ) : V κ φ cells slots pc L (.int x :: st) μ :=
  fun p e s m args below meth c B H locs ls hl hR hS => lv_i2c B.1 B.2.1 d rfl (k p e s m args below meth c B H locs ls hl hR hS)
theorem V_i2d {x : Int32} (d : decode φ.1.2.1 pc = .ok (.i2d, 1))  (k : V κ φ cells slots (pc + 1) L (.double (FP.i2d x) :: st) μ) : V κ φ cells slots pc L (.int x :: st) μ :=
  fun p e s m args below meth c B H locs ls hl hR hS => lv_i2d B.1 B.2.1 d  (k p e s m args below meth c B H locs ls hl hR hS)
theorem V_ddiv {x y : UInt64} (d : decode φ.1.2.1 pc = .ok (.ddiv, 1)) (h : vf_n64 (FP.ddiv x y)) (k : V κ φ cells slots (pc + 1) L (.double (FP.ddiv x y) :: st) μ) : V κ φ cells slots pc L (.double y :: .double x :: st) μ :=
  fun p e s m args below meth c B H locs ls hl hR hS => lv_ddiv B.1 B.2.1 d h (k p e s m args below meth c B H locs ls hl hR hS)
theorem V_dcmp {x y : UInt64} {op : CmpOp} (d : decode φ.1.2.1 pc = .ok (.dcmp op, 1))  (k : V κ φ cells slots (pc + 1) L (.int (Op.cmpValue (FP.dcmp x y) op) :: st) μ) : V κ φ cells slots pc L (.double y :: .double x :: st) μ :=
  fun p e s m args below meth c B H locs ls hl hR hS => lv_dcmp B.1 B.2.1 d  (k p e s m args below meth c B H locs ls hl hR hS)
theorem V_ladd {x y : Int64} (d : decode φ.1.2.1 pc = .ok (.ladd, 1))  (k : V κ φ cells slots (pc + 1) L (.long (x + y) :: st) μ) : V κ φ cells slots pc L (.long y :: .long x :: st) μ :=
  fun p e s m args below meth c B H locs ls hl hR hS => lv_ladd B.1 B.2.1 d  (k p e s m args below meth c B H locs ls hl hR hS)
theorem V_lcmp {x y : Int64} (d : decode φ.1.2.1 pc = .ok (.lcmp, 1))  (k : V κ φ cells slots (pc + 1) L (.int (lg_cmp x y) :: st) μ) : V κ φ cells slots pc L (.long y :: .long x :: st) μ :=
  fun p e s m args below meth c B H locs ls hl hR hS => W.lcmp B.1 B.2.1 d  (k p e s m args below meth c B H locs ls hl hR hS)
theorem V_dup {v : Value} (d : decode φ.1.2.1 pc = .ok (.dup, 1)) (h : v.category = 1) (k : V κ φ cells slots (pc + 1) L (v :: v :: st) μ) : V κ φ cells slots pc L (v :: st) μ :=
  fun p e s m args below meth c B H locs ls hl hR hS => lv_dup B.1 B.2.1 d h (k p e s m args below meth c B H locs ls hl hR hS)
theorem V_pop {v : Value} (d : decode φ.1.2.1 pc = .ok (.pop, 1)) (h : v.category = 1) (k : V κ φ cells slots (pc + 1) L st μ) : V κ φ cells slots pc L (v :: st) μ :=
  fun p e s m args below meth c B H locs ls hl hR hS => lv_pop B.1 B.2.1 d h (k p e s m args below meth c B H locs ls hl hR hS)
theorem V_dup2 {va vb : Value} (d : decode φ.1.2.1 pc = .ok (.dup2, 1)) (h : va.category = 1) (h2 : vb.category = 1) (k : V κ φ cells slots (pc + 1) L (va :: vb :: va :: vb :: st) μ) : V κ φ cells slots pc L (va :: vb :: st) μ :=
  fun p e s m args below meth c B H locs ls hl hR hS => lv_dup2_11 B.1 B.2.1 d h h2 (k p e s m args below meth c B H locs ls hl hR hS)
theorem V_if_eq {x : Int32} {off : Int} (tgt : Nat) (d : decode φ.1.2.1 pc = .ok (.ifCond .eq off, 3)) (ht : (pc : Int) + off = (tgt : Int)) (kt : x = 0 → V κ φ cells slots tgt L st μ) (kf : ¬ x = 0 → V κ φ cells slots (pc + 3) L st μ) : V κ φ cells slots pc L (.int x :: st) μ :=
  fun p e s m args below meth c B H locs ls hl hR hS => lv_if_eq B.1 B.2.1 d ht (fun z => kt z p e s m args below meth c B H locs ls hl hR hS) (fun z => kf z p e s m args below meth c B H locs ls hl hR hS)
theorem V_icmp_eq {x y : Int32} {off : Int} (tgt : Nat) (d : decode φ.1.2.1 pc = .ok (.if_icmp .eq off, 3)) (ht : (pc : Int) + off = (tgt : Int)) (kt : x = y → V κ φ cells slots tgt L st μ) (kf : ¬ x = y → V κ φ cells slots (pc + 3) L st μ) : V κ φ cells slots pc L (.int y :: .int x :: st) μ :=
  fun p e s m args below meth c B H locs ls hl hR hS => lv_icmp_eq B.1 B.2.1 d ht (fun z => kt z p e s m args below meth c B H locs ls hl hR hS) (fun z => kf z p e s m args below meth c B H locs ls hl hR hS)
theorem V_if_ne {x : Int32} {off : Int} (tgt : Nat) (d : decode φ.1.2.1 pc = .ok (.ifCond .ne off, 3)) (ht : (pc : Int) + off = (tgt : Int)) (kt : ¬ x = 0 → V κ φ cells slots tgt L st μ) (kf : x = 0 → V κ φ cells slots (pc + 3) L st μ) : V κ φ cells slots pc L (.int x :: st) μ :=
  fun p e s m args below meth c B H locs ls hl hR hS => lv_if_ne B.1 B.2.1 d ht (fun z => kt z p e s m args below meth c B H locs ls hl hR hS) (fun z => kf z p e s m args below meth c B H locs ls hl hR hS)
theorem V_icmp_ne {x y : Int32} {off : Int} (tgt : Nat) (d : decode φ.1.2.1 pc = .ok (.if_icmp .ne off, 3)) (ht : (pc : Int) + off = (tgt : Int)) (kt : ¬ x = y → V κ φ cells slots tgt L st μ) (kf : x = y → V κ φ cells slots (pc + 3) L st μ) : V κ φ cells slots pc L (.int y :: .int x :: st) μ :=
  fun p e s m args below meth c B H locs ls hl hR hS => lv_icmp_ne B.1 B.2.1 d ht (fun z => kt z p e s m args below meth c B H locs ls hl hR hS) (fun z => kf z p e s m args below meth c B H locs ls hl hR hS)
theorem V_if_lt {x : Int32} {off : Int} (tgt : Nat) (d : decode φ.1.2.1 pc = .ok (.ifCond .lt off, 3)) (ht : (pc : Int) + off = (tgt : Int)) (kt : x < 0 → V κ φ cells slots tgt L st μ) (kf : ¬ x < 0 → V κ φ cells slots (pc + 3) L st μ) : V κ φ cells slots pc L (.int x :: st) μ :=
  fun p e s m args below meth c B H locs ls hl hR hS => lv_if_lt B.1 B.2.1 d ht (fun z => kt z p e s m args below meth c B H locs ls hl hR hS) (fun z => kf z p e s m args below meth c B H locs ls hl hR hS)
theorem V_icmp_lt {x y : Int32} {off : Int} (tgt : Nat) (d : decode φ.1.2.1 pc = .ok (.if_icmp .lt off, 3)) (ht : (pc : Int) + off = (tgt : Int)) (kt : x < y → V κ φ cells slots tgt L st μ) (kf : ¬ x < y → V κ φ cells slots (pc + 3) L st μ) : V κ φ cells slots pc L (.int y :: .int x :: st) μ :=
  fun p e s m args below meth c B H locs ls hl hR hS => lv_icmp_lt B.1 B.2.1 d ht (fun z => kt z p e s m args below meth c B H locs ls hl hR hS) (fun z => kf z p e s m args below meth c B H locs ls hl hR hS)
theorem V_if_ge {x : Int32} {off : Int} (tgt : Nat) (d : decode φ.1.2.1 pc = .ok (.ifCond .ge off, 3)) (ht : (pc : Int) + off = (tgt : Int)) (kt : 0 ≤ x → V κ φ cells slots tgt L st μ) (kf : ¬ 0 ≤ x → V κ φ cells slots (pc + 3) L st μ) : V κ φ cells slots pc L (.int x :: st) μ :=
  fun p e s m args below meth c B H locs ls hl hR hS => lv_if_ge B.1 B.2.1 d ht (fun z => kt z p e s m args below meth c B H locs ls hl hR hS) (fun z => kf z p e s m args below meth c B H locs ls hl hR hS)
theorem V_icmp_ge {x y : Int32} {off : Int} (tgt : Nat) (d : decode φ.1.2.1 pc = .ok (.if_icmp .ge off, 3)) (ht : (pc : Int) + off = (tgt : Int)) (kt : y ≤ x → V κ φ cells slots tgt L st μ) (kf : ¬ y ≤ x → V κ φ cells slots (pc + 3) L st μ) : V κ φ cells slots pc L (.int y :: .int x :: st) μ :=
  fun p e s m args below meth c B H locs ls hl hR hS => lv_icmp_ge B.1 B.2.1 d ht (fun z => kt z p e s m args below meth c B H locs ls hl hR hS) (fun z => kf z p e s m args below meth c B H locs ls hl hR hS)
theorem V_if_gt {x : Int32} {off : Int} (tgt : Nat) (d : decode φ.1.2.1 pc = .ok (.ifCond .gt off, 3)) (ht : (pc : Int) + off = (tgt : Int)) (kt : 0 < x → V κ φ cells slots tgt L st μ) (kf : ¬ 0 < x → V κ φ cells slots (pc + 3) L st μ) : V κ φ cells slots pc L (.int x :: st) μ :=
  fun p e s m args below meth c B H locs ls hl hR hS => lv_if_gt B.1 B.2.1 d ht (fun z => kt z p e s m args below meth c B H locs ls hl hR hS) (fun z => kf z p e s m args below meth c B H locs ls hl hR hS)
theorem V_icmp_gt {x y : Int32} {off : Int} (tgt : Nat) (d : decode φ.1.2.1 pc = .ok (.if_icmp .gt off, 3)) (ht : (pc : Int) + off = (tgt : Int)) (kt : y < x → V κ φ cells slots tgt L st μ) (kf : ¬ y < x → V κ φ cells slots (pc + 3) L st μ) : V κ φ cells slots pc L (.int y :: .int x :: st) μ :=
  fun p e s m args below meth c B H locs ls hl hR hS => lv_icmp_gt B.1 B.2.1 d ht (fun z => kt z p e s m args below meth c B H locs ls hl hR hS) (fun z => kf z p e s m args below meth c B H locs ls hl hR hS)
theorem V_if_le {x : Int32} {off : Int} (tgt : Nat) (d : decode φ.1.2.1 pc = .ok (.ifCond .le off, 3)) (ht : (pc : Int) + off = (tgt : Int)) (kt : x ≤ 0 → V κ φ cells slots tgt L st μ) (kf : ¬ x ≤ 0 → V κ φ cells slots (pc + 3) L st μ) : V κ φ cells slots pc L (.int x :: st) μ :=
  fun p e s m args below meth c B H locs ls hl hR hS => lv_if_le B.1 B.2.1 d ht (fun z => kt z p e s m args below meth c B H locs ls hl hR hS) (fun z => kf z p e s m args below meth c B H locs ls hl hR hS)
theorem V_icmp_le {x y : Int32} {off : Int} (tgt : Nat) (d : decode φ.1.2.1 pc = .ok (.if_icmp .le off, 3)) (ht : (pc : Int) + off = (tgt : Int)) (kt : x ≤ y → V κ φ cells slots tgt L st μ) (kf : ¬ x ≤ y → V κ φ cells slots (pc + 3) L st μ) : V κ φ cells slots pc L (.int y :: .int x :: st) μ :=
  fun p e s m args below meth c B H locs ls hl hR hS => lv_icmp_le B.1 B.2.1 d ht (fun z => kt z p e s m args below meth c B H locs ls hl hR hS) (fun z => kf z p e s m args below meth c B H locs ls hl hR hS)
theorem V_goto {off : Int} (tgt : Nat) (d : decode φ.1.2.1 pc = .ok (.goto off, 3)) (ht : (pc : Int) + off = (tgt : Int)) (k : V κ φ cells slots tgt L st μ) : V κ φ cells slots pc L st μ :=
  fun p e s m args below meth c B H locs ls hl hR hS => lv_goto B.1 B.2.1 d ht (k p e s m args below meth c B H locs ls hl hR hS)
theorem V_tableIn {dflt lo hi : Int} {offs : Array Int} {len : Nat} {x : Int32} {off : Int} (tgt : Nat) (d : decode φ.1.2.1 pc = .ok (.tableswitch dflt lo hi offs, len)) (h1 : ¬ x.toInt < lo) (h2 : ¬ hi < x.toInt) (ho : offs[(x.toInt - lo).toNat]? = some off) (ht : (pc : Int) + off = (tgt : Int)) (k : V κ φ cells slots tgt L st μ) : V κ φ cells slots pc L (.int x :: st) μ :=
  fun p e s m args below meth c B H locs ls hl hR hS => lv_tableIn B.1 B.2.1 d h1 h2 ho ht (k p e s m args below meth c B H locs ls hl hR hS)
theorem V_tableOut {dflt lo hi : Int} {offs : Array Int} {len : Nat} {x : Int32} (tgt : Nat) (d : decode φ.1.2.1 pc = .ok (.tableswitch dflt lo hi offs, len)) (h : x.toInt < lo ∨ hi < x.toInt) (ht : (pc : Int) + dflt = (tgt : Int)) (k : V κ φ cells slots tgt L st μ) : V κ φ cells slots pc L (.int x :: st) μ :=
  fun p e s m args below meth c B H locs ls hl hR hS => lv_tableOut B.1 B.2.1 d h ht (k p e s m args below meth c B H locs ls hl hR hS)
theorem V_ldcwI {index : Nat} {v : Int32} (d : decode φ.1.2.1 pc = .ok (.ldc_w index, 3)) (hc : Cond.constant φ.1.1.cls index v ∈ TW) (k : V κ φ cells slots (pc + 3) L (.int v :: st) μ) : V κ φ cells slots pc L st μ := by
  intro p e s m args below meth c B H locs ls hl hR hS T hT X
  obtain ⟨t, a1, b1⟩ := k p e s m args below meth c B H locs ls hl hR hS T hT X
  exact ⟨t, va_ldcwI X B.1 B.2.2.2.1 (B.2.2.2.2.1 _ hc) (g := F0 m pc ls st) rfl (by rw [B.2.1]; exact d) t a1, b1⟩
theorem V.cL {L' : List (Option Value)} (k : V κ φ cells slots pc L' st μ) (h : L = L') : V κ φ cells slots pc L st μ := h ▸ k
theorem V.cM {μ' : Mem} (k : V κ φ cells slots pc L st μ') (h : μ = μ') : V κ φ cells slots pc L st μ := h ▸ k
theorem V.cLM {L' : List (Option Value)} {μ' : Mem} (k : V κ φ cells slots pc L' st μ') (h : L = L') (h2 : μ = μ') : V κ φ cells slots pc L st μ := h ▸ h2 ▸ k
theorem V.cS {st' : List Value} (k : V κ φ cells slots pc L st' μ) (h : st = st') : V κ φ cells slots pc L st μ := h ▸ k
theorem V.cLSM {L' : List (Option Value)} {st' : List Value} {μ' : Mem} (k : V κ φ cells slots pc L' st' μ') (h : L = L') (h1 : st = st') (h2 : μ = μ') : V κ φ cells slots pc L st μ := h ▸ h1 ▸ h2 ▸ k
theorem V.widen {k n : Nat} (h1 : cells ≤ k) (h2 : slots ≤ n) (kk : V κ φ k n pc L st μ) : V κ φ cells slots pc L st μ :=
  fun p e s m args below meth c B H locs ls hl hR hS => W.widen h1 h2 (kk p e s m args below meth c B H locs ls hl hR hS)
/-- fewer locals are known -/
theorem V.less {L' : List (Option Value)} (k : V κ φ cells slots pc L' st μ) (h : ∀ (i : Nat) (v : Value), L'[i]? = some (some v) → L[i]? = some (some v)) : V κ φ cells slots pc L st μ :=
  fun p e s m args below meth c B H locs ls hl hR hS => k p e s m args below meth c B H locs ls ⟨hl.1, hl.2.1, fun i v z => hl.2.2 i v (h i v z)⟩ hR hS
end Rows1
