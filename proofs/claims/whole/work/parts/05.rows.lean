-- ONE ROW AN INSTRUCTION (rows.py writes the plain families)
section VRows
variable {G : Gam} {X : Fx} {pc n z : Nat} {ls st : List Value} {f : Mf}
theorem v_iadd {x y : Int32} (hd : decode (mC X.i) pc = .ok (.iadd, 1)) (h : V G X (pc + 1) ls (.int (x + y) :: st) n z f) : V G X pc ls (.int y :: .int x :: st) n z f :=
  fun p e s m args below meth c H lm hC hR hE hL => lv_iadd hC.2.1 hC.2.2.1 hd (h p e s m args below meth c H lm hC hR hE hL)
theorem v_isub {x y : Int32} (hd : decode (mC X.i) pc = .ok (.isub, 1)) (h : V G X (pc + 1) ls (.int (x - y) :: st) n z f) : V G X pc ls (.int y :: .int x :: st) n z f :=
  fun p e s m args below meth c H lm hC hR hE hL => lv_isub hC.2.1 hC.2.2.1 hd (h p e s m args below meth c H lm hC hR hE hL)
theorem v_imul {x y : Int32} (hd : decode (mC X.i) pc = .ok (.imul, 1)) (h : V G X (pc + 1) ls (.int (x * y) :: st) n z f) : V G X pc ls (.int y :: .int x :: st) n z f :=
  fun p e s m args below meth c H lm hC hR hE hL => lv_imul hC.2.1 hC.2.2.1 hd (h p e s m args below meth c H lm hC hR hE hL)
theorem v_iand {x y : Int32} (hd : decode (mC X.i) pc = .ok (.iand, 1)) (h : V G X (pc + 1) ls (.int (x &&& y) :: st) n z f) : V G X pc ls (.int y :: .int x :: st) n z f :=
  fun p e s m args below meth c H lm hC hR hE hL => lv_iand hC.2.1 hC.2.2.1 hd (h p e s m args below meth c H lm hC hR hE hL)
theorem v_ior {x y : Int32} (hd : decode (mC X.i) pc = .ok (.ior, 1)) (h : V G X (pc + 1) ls (.int (x ||| y) :: st) n z f) : V G X pc ls (.int y :: .int x :: st) n z f :=
  fun p e s m args below meth c H lm hC hR hE hL => lv_ior hC.2.1 hC.2.2.1 hd (h p e s m args below meth c H lm hC hR hE hL)
theorem v_ixor {x y : Int32} (hd : decode (mC X.i) pc = .ok (.ixor, 1)) (h : V G X (pc + 1) ls (.int (x ^^^ y) :: st) n z f) : V G X pc ls (.int y :: .int x :: st) n z f :=
  fun p e s m args below meth c H lm hC hR hE hL => lv_ixor hC.2.1 hC.2.2.1 hd (h p e s m args below meth c H lm hC hR hE hL)
theorem v_idiv {x y : Int32} (hd : decode (mC X.i) pc = .ok (.idiv, 1)) (hne : ¬ y = 0) (h : V G X (pc + 1) ls (.int (x / y) :: st) n z f) : V G X pc ls (.int y :: .int x :: st) n z f :=
  fun p e s m args below meth c H lm hC hR hE hL => lv_idiv hC.2.1 hC.2.2.1 hd hne (h p e s m args below meth c H lm hC hR hE hL)
theorem v_irem {x y : Int32} (hd : decode (mC X.i) pc = .ok (.irem, 1)) (hne : ¬ y = 0) (h : V G X (pc + 1) ls (.int (x - x / y * y) :: st) n z f) : V G X pc ls (.int y :: .int x :: st) n z f :=
  fun p e s m args below meth c H lm hC hR hE hL => lv_irem hC.2.1 hC.2.2.1 hd hne (h p e s m args below meth c H lm hC hR hE hL)
theorem v_ishl {x y : Int32} (hd : decode (mC X.i) pc = .ok (.ishl, 1)) (h : V G X (pc + 1) ls (.int (x <<< (y &&& 31)) :: st) n z f) : V G X pc ls (.int y :: .int x :: st) n z f :=
  fun p e s m args below meth c H lm hC hR hE hL => lv_ishl hC.2.1 hC.2.2.1 hd (h p e s m args below meth c H lm hC hR hE hL)
theorem v_ishr {x y : Int32} (hd : decode (mC X.i) pc = .ok (.ishr, 1)) (h : V G X (pc + 1) ls (.int (x >>> (y &&& 31)) :: st) n z f) : V G X pc ls (.int y :: .int x :: st) n z f :=
  fun p e s m args below meth c H lm hC hR hE hL => lv_ishr hC.2.1 hC.2.2.1 hd (h p e s m args below meth c H lm hC hR hE hL)
theorem v_iushr {x y : Int32} (hd : decode (mC X.i) pc = .ok (.iushr, 1)) (h : V G X (pc + 1) ls (.int ((x.toUInt32 >>> (y.toUInt32 &&& Int32.toUInt32 31)).toInt32) :: st) n z f) : V G X pc ls (.int y :: .int x :: st) n z f :=
  fun p e s m args below meth c H lm hC hR hE hL => lv_iushr hC.2.1 hC.2.2.1 hd rfl (h p e s m args below meth c H lm hC hR hE hL)
theorem v_land {x y : Int64} (hd : decode (mC X.i) pc = .ok (.land, 1)) (h : V G X (pc + 1) ls (.long (x &&& y) :: st) n z f) : V G X pc ls (.long y :: .long x :: st) n z f :=
  fun p e s m args below meth c H lm hC hR hE hL => lv_land hC.2.1 hC.2.2.1 hd (h p e s m args below meth c H lm hC hR hE hL)
theorem v_lor {x y : Int64} (hd : decode (mC X.i) pc = .ok (.lor, 1)) (h : V G X (pc + 1) ls (.long (x ||| y) :: st) n z f) : V G X pc ls (.long y :: .long x :: st) n z f :=
  fun p e s m args below meth c H lm hC hR hE hL => lv_lor hC.2.1 hC.2.2.1 hd (h p e s m args below meth c H lm hC hR hE hL)
theorem v_lxor {x y : Int64} (hd : decode (mC X.i) pc = .ok (.lxor, 1)) (h : V G X (pc + 1) ls (.long (x ^^^ y) :: st) n z f) : V G X pc ls (.long y :: .long x :: st) n z f :=
  fun p e s m args below meth c H lm hC hR hE hL => lv_lxor hC.2.1 hC.2.2.1 hd (h p e s m args below meth c H lm hC hR hE hL)
theorem v_lshl {x : Int64} {y : Int32} (hd : decode (mC X.i) pc = .ok (.lshl, 1)) (h : V G X (pc + 1) ls (.long (x <<< (y.toInt64 &&& 63)) :: st) n z f) : V G X pc ls (.int y :: .long x :: st) n z f :=
  fun p e s m args below meth c H lm hC hR hE hL => lv_lshl hC.2.1 hC.2.2.1 hd rfl (h p e s m args below meth c H lm hC hR hE hL)
theorem v_lushr {x : Int64} {y : Int32} (hd : decode (mC X.i) pc = .ok (.lushr, 1)) (h : V G X (pc + 1) ls (.long ((x.toUInt64 >>> (y.toInt64.toUInt64 &&& Int64.toUInt64 63)).toInt64) :: st) n z f) : V G X pc ls (.int y :: .long x :: st) n z f :=
  fun p e s m args below meth c H lm hC hR hE hL => lv_lushr hC.2.1 hC.2.2.1 hd rfl (h p e s m args below meth c H lm hC hR hE hL)
theorem v_lcmp {x y : Int64} (hd : decode (mC X.i) pc = .ok (.lcmp, 1)) (h : V G X (pc + 1) ls (.int (lg_cmp x y) :: st) n z f) : V G X pc ls (.long y :: .long x :: st) n z f :=
  fun p e s m args below meth c H lm hC hR hE hL => W.lcmp hC.2.1 hC.2.2.1 hd (h p e s m args below meth c H lm hC hR hE hL)
theorem v_i2l {x : Int32} (hd : decode (mC X.i) pc = .ok (.i2l, 1)) (h : V G X (pc + 1) ls (.long x.toInt64 :: st) n z f) : V G X pc ls (.int x :: st) n z f :=
  fun p e s m args below meth c H lm hC hR hE hL => lv_i2l hC.2.1 hC.2.2.1 hd rfl (h p e s m args below meth c H lm hC hR hE hL)
theorem v_i2b {x : Int32} (hd : decode (mC X.i) pc = .ok (.i2b, 1)) (h : V G X (pc + 1) ls (.int x.toInt8.toInt32 :: st) n z f) : V G X pc ls (.int x :: st) n z f :=
  fun p e s m args below meth c H lm hC hR hE hL => lv_i2b hC.2.1 hC.2.2.1 hd rfl (h p e s m args below meth c H lm hC hR hE hL)
theorem v_i2c {x : Int32} (hd : decode (mC X.i) pc = .ok (.i2c, 1)) (h : V G X (pc + 1) ls (.int (x.toUInt32 % 65536).toInt32 :: st) n z f) : V G X pc ls (.int x :: st) n z f :=
  fun p e s m args below meth c H lm hC hR hE hL => lv_i2c hC.2.1 hC.2.2.1 hd rfl (h p e s m args below meth c H lm hC hR hE hL)
theorem v_iconst {k : Int} {c : Int32} (hd : decode (mC X.i) pc = .ok (.iconst k, 1)) (hv : Int32.ofInt k = c) (h : V G X (pc + 1) ls (.int c :: st) n z f) : V G X pc ls (st) n z f :=
  fun p e s m args below meth c H lm hC hR hE hL => lv_iconst hC.2.1 hC.2.2.1 hd hv (h p e s m args below meth c H lm hC hR hE hL)
theorem v_bipush {k : Int} {c : Int32} (hd : decode (mC X.i) pc = .ok (.bipush k, 2)) (hv : (Int8.ofInt k).toInt32 = c) (h : V G X (pc + 2) ls (.int c :: st) n z f) : V G X pc ls (st) n z f :=
  fun p e s m args below meth c H lm hC hR hE hL => lv_bipush hC.2.1 hC.2.2.1 hd hv (h p e s m args below meth c H lm hC hR hE hL)
theorem v_sipush {k : Int} {c : Int32} (hd : decode (mC X.i) pc = .ok (.sipush k, 3)) (hv : (Int16.ofInt k).toInt32 = c) (h : V G X (pc + 3) ls (.int c :: st) n z f) : V G X pc ls (st) n z f :=
  fun p e s m args below meth c H lm hC hR hE hL => lv_sipush hC.2.1 hC.2.2.1 hd hv (h p e s m args below meth c H lm hC hR hE hL)
theorem v_lconst {k : Fin 2} (hd : decode (mC X.i) pc = .ok (.lconst k, 1)) (h : V G X (pc + 1) ls (.long (Int64.ofNat (k : Nat)) :: st) n z f) : V G X pc ls (st) n z f :=
  fun p e s m args below meth c H lm hC hR hE hL => lv_lconst hC.2.1 hC.2.2.1 hd rfl (h p e s m args below meth c H lm hC hR hE hL)
theorem v_null (hd : decode (mC X.i) pc = .ok (.aconst_null, 1)) (h : V G X (pc + 1) ls (.null :: st) n z f) : V G X pc ls (st) n z f :=
  fun p e s m args below meth c H lm hC hR hE hL => lv_null hC.2.1 hC.2.2.1 hd (h p e s m args below meth c H lm hC hR hE hL)
theorem v_dup {v : Value} (hd : decode (mC X.i) pc = .ok (.dup, 1)) (hv : v.category = 1) (h : V G X (pc + 1) ls (v :: v :: st) n z f) : V G X pc ls (v :: st) n z f :=
  fun p e s m args below meth c H lm hC hR hE hL => lv_dup hC.2.1 hC.2.2.1 hd ((sh_cat G v).trans hv) (h p e s m args below meth c H lm hC hR hE hL)
theorem v_pop {v : Value} (hd : decode (mC X.i) pc = .ok (.pop, 1)) (hv : v.category = 1) (h : V G X (pc + 1) ls (st) n z f) : V G X pc ls (v :: st) n z f :=
  fun p e s m args below meth c H lm hC hR hE hL => lv_pop hC.2.1 hC.2.2.1 hd ((sh_cat G v).trans hv) (h p e s m args below meth c H lm hC hR hE hL)
theorem v_dup2 {v w : Value} (hd : decode (mC X.i) pc = .ok (.dup2, 1)) (hv : v.category = 1) (hw : w.category = 1) (h : V G X (pc + 1) ls (v :: w :: v :: w :: st) n z f) : V G X pc ls (v :: w :: st) n z f :=
  fun p e s m args below meth c H lm hC hR hE hL => lv_dup2_11 hC.2.1 hC.2.2.1 hd ((sh_cat G v).trans hv) ((sh_cat G w).trans hw) (h p e s m args below meth c H lm hC hR hE hL)
theorem v_iload {i : Nat} {x : Int32} (hd : decode (mC X.i) pc = .ok (.iload i, 2)) (hl : ls[i]? = some (.int x)) (h : V G X (pc + 2) ls (.int x :: st) n z f) : V G X pc ls st n z f :=
  fun p e s m args below meth c H lm hC hR hE hL => lv_iload hC.2.1 hC.2.2.1 hd (hL.get hl (fun q => by cases q)) (h p e s m args below meth c H lm hC hR hE hL)
theorem v_iload_n {i : Nat} {k : Fin 4} {x : Int32} (hd : decode (mC X.i) pc = .ok (.iload_n k, 1)) (hi : (k : Nat) = i) (hl : ls[i]? = some (.int x)) (h : V G X (pc + 1) ls (.int x :: st) n z f) : V G X pc ls st n z f :=
  fun p e s m args below meth c H lm hC hR hE hL => lv_iload_n hC.2.1 hC.2.2.1 hd hi (hL.get hl (fun q => by cases q)) (h p e s m args below meth c H lm hC hR hE hL)
theorem v_lload {i : Nat} {x : Int64} (hd : decode (mC X.i) pc = .ok (.lload i, 2)) (hl : ls[i]? = some (.long x)) (h : V G X (pc + 2) ls (.long x :: st) n z f) : V G X pc ls st n z f :=
  fun p e s m args below meth c H lm hC hR hE hL => lv_lload hC.2.1 hC.2.2.1 hd (hL.get hl (fun q => by cases q)) (h p e s m args below meth c H lm hC hR hE hL)
theorem v_lload_n {i : Nat} {k : Fin 4} {x : Int64} (hd : decode (mC X.i) pc = .ok (.lload_n k, 1)) (hi : (k : Nat) = i) (hl : ls[i]? = some (.long x)) (h : V G X (pc + 1) ls (.long x :: st) n z f) : V G X pc ls st n z f :=
  fun p e s m args below meth c H lm hC hR hE hL => lv_lload_n hC.2.1 hC.2.2.1 hd hi (hL.get hl (fun q => by cases q)) (h p e s m args below meth c H lm hC hR hE hL)
theorem v_aload {i : Nat} {x : Nat} (hd : decode (mC X.i) pc = .ok (.aload i, 2)) (hl : ls[i]? = some (.ref x)) (h : V G X (pc + 2) ls (.ref x :: st) n z f) : V G X pc ls st n z f :=
  fun p e s m args below meth c H lm hC hR hE hL => lv_aload hC.2.1 hC.2.2.1 hd (hL.get hl (fun q => by cases q)) (h p e s m args below meth c H lm hC hR hE hL)
theorem v_aload_n {i : Nat} {k : Fin 4} {x : Nat} (hd : decode (mC X.i) pc = .ok (.aload_n k, 1)) (hi : (k : Nat) = i) (hl : ls[i]? = some (.ref x)) (h : V G X (pc + 1) ls (.ref x :: st) n z f) : V G X pc ls st n z f :=
  fun p e s m args below meth c H lm hC hR hE hL => lv_aload_n hC.2.1 hC.2.2.1 hd hi (hL.get hl (fun q => by cases q)) (h p e s m args below meth c H lm hC hR hE hL)
theorem v_aload0 {i : Nat} (hd : decode (mC X.i) pc = .ok (.aload i, 2)) (hl : ls[i]? = some (.null)) (h : V G X (pc + 2) ls (.null :: st) n z f) : V G X pc ls st n z f :=
  fun p e s m args below meth c H lm hC hR hE hL => lv_aloadN hC.2.1 hC.2.2.1 hd (hL.get hl (fun q => by cases q)) (h p e s m args below meth c H lm hC hR hE hL)
theorem v_aload0_n {i : Nat} {k : Fin 4} (hd : decode (mC X.i) pc = .ok (.aload_n k, 1)) (hi : (k : Nat) = i) (hl : ls[i]? = some (.null)) (h : V G X (pc + 1) ls (.null :: st) n z f) : V G X pc ls st n z f :=
  fun p e s m args below meth c H lm hC hR hE hL => lv_aload_nN hC.2.1 hC.2.2.1 hd hi (hL.get hl (fun q => by cases q)) (h p e s m args below meth c H lm hC hR hE hL)
theorem v_istore {i : Nat} {x : Int32} (hd : decode (mC X.i) pc = .ok (.istore i, 2)) (hi : i < ls.length) (hn : noL ls i = true) (h : V G X (pc + 2) (ls.set i (.int x)) st n z f) : V G X pc ls (.int x :: st) n z f :=
  fun p e s m args below meth c H lm hC hR hE hL => lv_istore hC.2.1 hC.2.2.1 hd hL.lv (hL.2.1 ▸ hi) rfl (fun lm2 h2 => h p e s m args below meth c H lm2 hC hR hE (hL.set1 hn h2))
theorem v_istore_n {i : Nat} {k : Fin 4} {x : Int32} (hd : decode (mC X.i) pc = .ok (.istore_n k, 1)) (hk : (k : Nat) = i) (hi : i < ls.length) (hn : noL ls i = true) (h : V G X (pc + 1) (ls.set i (.int x)) st n z f) : V G X pc ls (.int x :: st) n z f :=
  fun p e s m args below meth c H lm hC hR hE hL => lv_istore_n hC.2.1 hC.2.2.1 hd hk hL.lv (hL.2.1 ▸ hi) rfl (fun lm2 h2 => h p e s m args below meth c H lm2 hC hR hE (hL.set1 hn h2))
theorem v_astore {i : Nat} {x : Nat} (hd : decode (mC X.i) pc = .ok (.astore i, 2)) (hi : i < ls.length) (hn : noL ls i = true) (h : V G X (pc + 2) (ls.set i (.ref x)) st n z f) : V G X pc ls (.ref x :: st) n z f :=
  fun p e s m args below meth c H lm hC hR hE hL => lv_astore hC.2.1 hC.2.2.1 hd hL.lv (hL.2.1 ▸ hi) rfl (fun lm2 h2 => h p e s m args below meth c H lm2 hC hR hE (hL.set1 hn h2))
theorem v_astore_n {i : Nat} {k : Fin 4} {x : Nat} (hd : decode (mC X.i) pc = .ok (.astore_n k, 1)) (hk : (k : Nat) = i) (hi : i < ls.length) (hn : noL ls i = true) (h : V G X (pc + 1) (ls.set i (.ref x)) st n z f) : V G X pc ls (.ref x :: st) n z f :=
  fun p e s m args below meth c H lm hC hR hE hL => lv_astore_n hC.2.1 hC.2.2.1 hd hk hL.lv (hL.2.1 ▸ hi) rfl (fun lm2 h2 => h p e s m args below meth c H lm2 hC hR hE (hL.set1 hn h2))
theorem v_astore0 {i : Nat} (hd : decode (mC X.i) pc = .ok (.astore i, 2)) (hi : i < ls.length) (hn : noL ls i = true) (h : V G X (pc + 2) (ls.set i (.null)) st n z f) : V G X pc ls (.null :: st) n z f :=
  fun p e s m args below meth c H lm hC hR hE hL => lv_astoreN hC.2.1 hC.2.2.1 hd hL.lv (hL.2.1 ▸ hi) rfl (fun lm2 h2 => h p e s m args below meth c H lm2 hC hR hE (hL.set1 hn h2))
theorem v_astore0_n {i : Nat} {k : Fin 4} (hd : decode (mC X.i) pc = .ok (.astore_n k, 1)) (hk : (k : Nat) = i) (hi : i < ls.length) (hn : noL ls i = true) (h : V G X (pc + 1) (ls.set i (.null)) st n z f) : V G X pc ls (.null :: st) n z f :=
  fun p e s m args below meth c H lm hC hR hE hL => lv_astore_nN hC.2.1 hC.2.2.1 hd hk hL.lv (hL.2.1 ▸ hi) rfl (fun lm2 h2 => h p e s m args below meth c H lm2 hC hR hE (hL.set1 hn h2))
theorem v_lstore {i : Nat} {x : Int64} (hd : decode (mC X.i) pc = .ok (.lstore i, 2)) (hi : i + 1 < ls.length) (hn : noL ls i = true) (h : V G X (pc + 2) ((ls.set i (.long x)).set (i + 1) dead) st n z f) : V G X pc ls (.long x :: st) n z f :=
  fun p e s m args below meth c H lm hC hR hE hL => lv_lstore hC.2.1 hC.2.2.1 hd hL.lv (hL.2.1 ▸ hi) rfl (fun lm2 h2 => h p e s m args below meth c H lm2 hC hR hE (hL.set2 hn h2))
theorem v_iinc {i : Nat} {x c : Int32} {k : Int} (hd : decode (mC X.i) pc = .ok (.iinc i k, 3)) (hc : Int32.ofInt k = c) (hl : ls[i]? = some (.int x)) (hn : noL ls i = true) (h : V G X (pc + 3) (ls.set i (.int (x + c))) st n z f) : V G X pc ls st n z f := by
  intro p e s m args below meth c' H lm hC hR hE hL
  have hm : (i, Value.int x) ∈ toLv G ls := toLv_in (G := G) hl (fun q => by cases q)
  obtain ⟨q, hq⟩ := List.getElem?_of_mem hm
  subst hc
  exact lv_iinc hC.2.1 hC.2.2.1 hd hL.lv hq rfl (hL.2.1 ▸ (List.getElem?_eq_some_iff.mp hl).1) rfl (fun lm2 h2 => h p e s m args below meth c' H lm2 hC hR hE (hL.set1 hn h2))
theorem v_goto {off : Int} {t : Nat} (hd : decode (mC X.i) pc = .ok (.goto off, 3)) (ht : (pc : Int) + off = (t : Int)) (h : V G X t ls st n z f) : V G X pc ls st n z f :=
  fun p e s m args below meth c H lm hC hR hE hL => lv_goto hC.2.1 hC.2.2.1 hd ht (h p e s m args below meth c H lm hC hR hE hL)
theorem v_if_eq {x : Int32} {off : Int} {t : Nat} (hd : decode (mC X.i) pc = .ok (.ifCond .eq off, 3)) (ht : (pc : Int) + off = (t : Int)) (h1 : x = 0 → V G X t ls st n z f) (h2 : ¬ (x = 0) → V G X (pc + 3) ls st n z f) : V G X pc ls (.int x :: st) n z f :=
  fun p e s m args below meth c H lm hC hR hE hL => lv_if_eq hC.2.1 hC.2.2.1 hd ht (fun q => h1 q p e s m args below meth c H lm hC hR hE hL) (fun q => h2 q p e s m args below meth c H lm hC hR hE hL)
theorem v_icmp_eq {x y : Int32} {off : Int} {t : Nat} (hd : decode (mC X.i) pc = .ok (.if_icmp .eq off, 3)) (ht : (pc : Int) + off = (t : Int)) (h1 : x = y → V G X t ls st n z f) (h2 : ¬ (x = y) → V G X (pc + 3) ls st n z f) : V G X pc ls (.int y :: .int x :: st) n z f :=
  fun p e s m args below meth c H lm hC hR hE hL => lv_icmp_eq hC.2.1 hC.2.2.1 hd ht (fun q => h1 q p e s m args below meth c H lm hC hR hE hL) (fun q => h2 q p e s m args below meth c H lm hC hR hE hL)
theorem v_if_ne {x : Int32} {off : Int} {t : Nat} (hd : decode (mC X.i) pc = .ok (.ifCond .ne off, 3)) (ht : (pc : Int) + off = (t : Int)) (h1 : (¬ x = 0) → V G X t ls st n z f) (h2 : x = 0 → V G X (pc + 3) ls st n z f) : V G X pc ls (.int x :: st) n z f :=
  fun p e s m args below meth c H lm hC hR hE hL => lv_if_ne hC.2.1 hC.2.2.1 hd ht (fun q => h1 q p e s m args below meth c H lm hC hR hE hL) (fun q => h2 q p e s m args below meth c H lm hC hR hE hL)
theorem v_icmp_ne {x y : Int32} {off : Int} {t : Nat} (hd : decode (mC X.i) pc = .ok (.if_icmp .ne off, 3)) (ht : (pc : Int) + off = (t : Int)) (h1 : (¬ x = y) → V G X t ls st n z f) (h2 : x = y → V G X (pc + 3) ls st n z f) : V G X pc ls (.int y :: .int x :: st) n z f :=
  fun p e s m args below meth c H lm hC hR hE hL => lv_icmp_ne hC.2.1 hC.2.2.1 hd ht (fun q => h1 q p e s m args below meth c H lm hC hR hE hL) (fun q => h2 q p e s m args below meth c H lm hC hR hE hL)
theorem v_if_lt {x : Int32} {off : Int} {t : Nat} (hd : decode (mC X.i) pc = .ok (.ifCond .lt off, 3)) (ht : (pc : Int) + off = (t : Int)) (h1 : x < 0 → V G X t ls st n z f) (h2 : ¬ (x < 0) → V G X (pc + 3) ls st n z f) : V G X pc ls (.int x :: st) n z f :=
  fun p e s m args below meth c H lm hC hR hE hL => lv_if_lt hC.2.1 hC.2.2.1 hd ht (fun q => h1 q p e s m args below meth c H lm hC hR hE hL) (fun q => h2 q p e s m args below meth c H lm hC hR hE hL)
theorem v_icmp_lt {x y : Int32} {off : Int} {t : Nat} (hd : decode (mC X.i) pc = .ok (.if_icmp .lt off, 3)) (ht : (pc : Int) + off = (t : Int)) (h1 : x < y → V G X t ls st n z f) (h2 : ¬ (x < y) → V G X (pc + 3) ls st n z f) : V G X pc ls (.int y :: .int x :: st) n z f :=
  fun p e s m args below meth c H lm hC hR hE hL => lv_icmp_lt hC.2.1 hC.2.2.1 hd ht (fun q => h1 q p e s m args below meth c H lm hC hR hE hL) (fun q => h2 q p e s m args below meth c H lm hC hR hE hL)
theorem v_if_ge {x : Int32} {off : Int} {t : Nat} (hd : decode (mC X.i) pc = .ok (.ifCond .ge off, 3)) (ht : (pc : Int) + off = (t : Int)) (h1 : 0 ≤ x → V G X t ls st n z f) (h2 : ¬ (0 ≤ x) → V G X (pc + 3) ls st n z f) : V G X pc ls (.int x :: st) n z f :=
  fun p e s m args below meth c H lm hC hR hE hL => lv_if_ge hC.2.1 hC.2.2.1 hd ht (fun q => h1 q p e s m args below meth c H lm hC hR hE hL) (fun q => h2 q p e s m args below meth c H lm hC hR hE hL)
theorem v_icmp_ge {x y : Int32} {off : Int} {t : Nat} (hd : decode (mC X.i) pc = .ok (.if_icmp .ge off, 3)) (ht : (pc : Int) + off = (t : Int)) (h1 : y ≤ x → V G X t ls st n z f) (h2 : ¬ (y ≤ x) → V G X (pc + 3) ls st n z f) : V G X pc ls (.int y :: .int x :: st) n z f :=
  fun p e s m args below meth c H lm hC hR hE hL => lv_icmp_ge hC.2.1 hC.2.2.1 hd ht (fun q => h1 q p e s m args below meth c H lm hC hR hE hL) (fun q => h2 q p e s m args below meth c H lm hC hR hE hL)
theorem v_if_gt {x : Int32} {off : Int} {t : Nat} (hd : decode (mC X.i) pc = .ok (.ifCond .gt off, 3)) (ht : (pc : Int) + off = (t : Int)) (h1 : 0 < x → V G X t ls st n z f) (h2 : ¬ (0 < x) → V G X (pc + 3) ls st n z f) : V G X pc ls (.int x :: st) n z f :=
  fun p e s m args below meth c H lm hC hR hE hL => lv_if_gt hC.2.1 hC.2.2.1 hd ht (fun q => h1 q p e s m args below meth c H lm hC hR hE hL) (fun q => h2 q p e s m args below meth c H lm hC hR hE hL)
theorem v_icmp_gt {x y : Int32} {off : Int} {t : Nat} (hd : decode (mC X.i) pc = .ok (.if_icmp .gt off, 3)) (ht : (pc : Int) + off = (t : Int)) (h1 : y < x → V G X t ls st n z f) (h2 : ¬ (y < x) → V G X (pc + 3) ls st n z f) : V G X pc ls (.int y :: .int x :: st) n z f :=
  fun p e s m args below meth c H lm hC hR hE hL => lv_icmp_gt hC.2.1 hC.2.2.1 hd ht (fun q => h1 q p e s m args below meth c H lm hC hR hE hL) (fun q => h2 q p e s m args below meth c H lm hC hR hE hL)
theorem v_if_le {x : Int32} {off : Int} {t : Nat} (hd : decode (mC X.i) pc = .ok (.ifCond .le off, 3)) (ht : (pc : Int) + off = (t : Int)) (h1 : x ≤ 0 → V G X t ls st n z f) (h2 : ¬ (x ≤ 0) → V G X (pc + 3) ls st n z f) : V G X pc ls (.int x :: st) n z f :=
  fun p e s m args below meth c H lm hC hR hE hL => lv_if_le hC.2.1 hC.2.2.1 hd ht (fun q => h1 q p e s m args below meth c H lm hC hR hE hL) (fun q => h2 q p e s m args below meth c H lm hC hR hE hL)
theorem v_icmp_le {x y : Int32} {off : Int} {t : Nat} (hd : decode (mC X.i) pc = .ok (.if_icmp .le off, 3)) (ht : (pc : Int) + off = (t : Int)) (h1 : x ≤ y → V G X t ls st n z f) (h2 : ¬ (x ≤ y) → V G X (pc + 3) ls st n z f) : V G X pc ls (.int y :: .int x :: st) n z f :=
  fun p e s m args below meth c H lm hC hR hE hL => lv_icmp_le hC.2.1 hC.2.2.1 hd ht (fun q => h1 q p e s m args below meth c H lm hC hR hE hL) (fun q => h2 q p e s m args below meth c H lm hC hR hE hL)
theorem v_ifnonnull {x : Nat} {off : Int} {t : Nat} (hd : decode (mC X.i) pc = .ok (.ifnonnull off, 3)) (ht : (pc : Int) + off = (t : Int)) (h : V G X t ls st n z f) : V G X pc ls (.ref x :: st) n z f :=
  fun p e s m args below meth c H lm hC hR hE hL => lv_ifnonnull hC.2.1 hC.2.2.1 hd ht (h p e s m args below meth c H lm hC hR hE hL)
theorem v_ifnonnull0 {off : Int} (hd : decode (mC X.i) pc = .ok (.ifnonnull off, 3)) (h : V G X (pc + 3) ls st n z f) : V G X pc ls (.null :: st) n z f :=
  fun p e s m args below meth c H lm hC hR hE hL => lv_ifnonnullN hC.2.1 hC.2.2.1 hd (h p e s m args below meth c H lm hC hR hE hL)
theorem v_ldc {idx : Nat} {c : Int32} (hd : decode (mC X.i) pc = .ok (.ldc idx, 2)) (hw : Cond.constant (mY X.i).cls idx c ∈ lw_tbl) (h : V G X (pc + 2) ls (.int c :: st) n z f) : V G X pc ls st n z f :=
  fun p e s m args below meth c' H lm hC hR hE hL => lv_ldc hC.2.1 hC.2.2.1 hC.2.2.2.2.2.2.1 (hC.1.word hw rfl hC.2.2.2.2.2.2.2.2.1) hd (h p e s m args below meth c' H lm hC hR hE hL)
theorem v_ldcw {idx : Nat} {c : Int32} (hd : decode (mC X.i) pc = .ok (.ldc_w idx, 3)) (hw : Cond.constant (mY X.i).cls idx c ∈ lw_tbl) (h : V G X (pc + 3) ls (.int c :: st) n z f) : V G X pc ls st n z f :=
  fun p e s m args below meth c' H lm hC hR hE hL => lv_ldcw hC.2.1 hC.2.2.1 hC.2.2.2.2.2.2.1 (hC.1.word hw rfl hC.2.2.2.2.2.2.2.2.1) hd (h p e s m args below meth c' H lm hC hR hE hL)
theorem v_ldc2 {idx : Nat} {c : Int64} (hd : decode (mC X.i) pc = .ok (.ldc2_w idx, 3)) (hw : Cond.constantLong (mY X.i).cls idx c ∈ lw_tbl) (h : V G X (pc + 3) ls (.long c :: st) n z f) : V G X pc ls st n z f :=
  fun p e s m args below meth c' H lm hC hR hE hL => lv_ldc2 hC.2.1 hC.2.2.1 hC.2.2.2.2.2.2.1 (hC.1.word hw rfl hC.2.2.2.2.2.2.2.2.1) hd (h p e s m args below meth c' H lm hC hR hE hL)
theorem v_ldcS {idx j : Nat} {tx : String} (hd : decode (mC X.i) pc = .ok (.ldc idx, 2)) (hw : Cond.stringRef (mY X.i).cls idx tx ∈ lw_tbl) (hj : stxt[j]? = some tx) (h : V G X (pc + 2) ls (.ref (OLD + (10 + 2 * j)) :: st) n z f) : V G X pc ls st n z f := by
  intro p e s m args below meth c' H lm hC hR hE hL
  have h1 := hC.1.2.2.2.2.2.1 _ _ _ _ hw hj
  have e1 : sh G (.ref (OLD + (10 + 2 * j))) = .ref (G.od (10 + 2 * j)) := by
    show Value.ref (ad G (OLD + (10 + 2 * j))) = _
    rw [ad, if_neg (Nat.not_lt.mpr (Nat.le_add_right _ _)), Nat.add_sub_cancel_left]
  have h2 := h p e s m args below meth c' H lm hC hR hE hL
  rw [List.map_cons, e1] at h2
  exact va_ldcS hC.2.1 hC.2.2.1 hC.2.2.2.2.2.2.1 (h1.warm hC.2.2.2.2.2.2.2.2.1) hd h2
theorem v_table {dflt lo hi : Int} {offs : Array Int} {len : Nat} {x : Int32} (hd : decode (mC X.i) pc = .ok (.tableswitch dflt lo hi offs, len)) (hn : (dflt :: offs.toList).all (fun o => decide (0 ≤ (pc : Int) + o)) = true) (hl : (offs.size : Int) = hi - lo + 1)
    (h1 : (x.toInt < lo ∨ hi < x.toInt) → V G X ((pc : Int) + dflt).toNat ls st n z f) (h2 : ∀ (j : Nat) (o : Int), offs.toList[j]? = some o → x.toInt = lo + j → V G X ((pc : Int) + o).toNat ls st n z f) : V G X pc ls (.int x :: st) n z f := by
  intro p e s m args below meth c H lm hC hR hE hL
  have hn' := List.all_eq_true.mp hn
  by_cases q : x.toInt < lo ∨ hi < x.toInt
  · exact lv_tableOut hC.2.1 hC.2.2.1 hd q (Int.toNat_of_nonneg (of_decide_eq_true (hn' dflt List.mem_cons_self))).symm (h1 q p e s m args below meth c H lm hC hR hE hL)
  · have a1 : ¬ x.toInt < lo := fun z => q (Or.inl z)
    have a2 : ¬ hi < x.toInt := fun z => q (Or.inr z)
    have hlt : (x.toInt - lo).toNat < offs.size := by omega
    obtain ⟨o, ho⟩ : ∃ o, offs[(x.toInt - lo).toNat]? = some o := ⟨_, Array.getElem?_eq_getElem hlt⟩
    have ho' : offs.toList[(x.toInt - lo).toNat]? = some o := by rw [Array.getElem?_toList]; exact ho
    exact lv_tableIn hC.2.1 hC.2.2.1 hd a1 a2 ho (Int.toNat_of_nonneg (of_decide_eq_true (hn' o (List.mem_cons_of_mem _ (List.mem_of_getElem? ho'))))).symm (h2 _ o ho' (by omega) p e s m args below meth c H lm hC hR hE hL)
theorem v_lookup {dflt : Int} {ps : Array (Int × Int)} {len : Nat} {x : Int32} (hd : decode (mC X.i) pc = .ok (.lookupswitch dflt ps, len)) (hp : (ps.toList.zip (ps.toList.drop 1)).all (fun (a, next) => a.1 < next.1) = true) (hn : (dflt :: ps.toList.map (·.2)).all (fun o => decide (0 ≤ (pc : Int) + o)) = true)
    (h : V G X ((pc : Int) + Op.lookupswitch.offset ps.toList dflt x.toInt).toNat ls st n z f) (hin : 0 ≤ (pc : Int) + Op.lookupswitch.offset ps.toList dflt x.toInt) : V G X pc ls (.int x :: st) n z f :=
  fun p e s m args below meth c H lm hC hR hE hL => lv_lookup hC.2.1 hC.2.2.1 hd hp rfl (Int.toNat_of_nonneg hin).symm (h p e s m args below meth c H lm hC hR hE hL)
end VRows
