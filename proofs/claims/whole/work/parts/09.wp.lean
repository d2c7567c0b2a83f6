-- THE VERIFIED CONDITIONS: wp runs the code over abstract values; what it leaves is to be proved
abbrev RI : Type := Instr × Nat × Nat × Nat × Int32 × Nat
abbrev Cd : Type := List (Nat × RI)
/-- what the tables must say of an instruction -/
def OkP (y : MethodName) (pc : Nat) (r : RI) : Prop := match r with
  | (ins, len, a, b, c, q) => match ins with
    | .iconst x => (Int32.ofInt x = c ∧ len = 1)
    | .bipush x => ((Int8.ofInt x).toInt32 = c ∧ len = 2)
    | .sipush x => ((Int16.ofInt x).toInt32 = c ∧ len = 3)
    | .ldc idx => len = 2 ∧ (match b with
      | 0 => Cond.constant y.cls idx c ∈ lw_tbl
      | _ => ∃ (j : Nat) (tx : String), stxt[j]? = some tx ∧ Cond.stringRef y.cls idx tx ∈ lw_tbl ∧ a = OLD + (10 + 2 * j))
    | .ldc_w idx => (len = 3 ∧ Cond.constant y.cls idx c ∈ lw_tbl)
    | .ldc2_w idx => (len = 3 ∧ Cond.constantLong y.cls idx c.toInt64 ∈ lw_tbl)
    | .iload i => (len = 2 ∧ a = i)
    | .lload i => (len = 2 ∧ a = i)
    | .aload i => (len = 2 ∧ a = i)
    | .istore i => (len = 2 ∧ a = i)
    | .lstore i => (len = 2 ∧ a = i)
    | .astore i => (len = 2 ∧ a = i)
    | .iload_n k => (len = 1 ∧ (k : Nat) = a)
    | .lload_n k => (len = 1 ∧ (k : Nat) = a)
    | .aload_n k => (len = 1 ∧ (k : Nat) = a)
    | .istore_n k => (len = 1 ∧ (k : Nat) = a)
    | .astore_n k => (len = 1 ∧ (k : Nat) = a)
    | .iinc i x => ((len = 3 ∧ a = i) ∧ Int32.ofInt x = c)
    | .ifCond _ off => (len = 3 ∧ (pc : Int) + off = (a : Int))
    | .if_icmp _ off => (len = 3 ∧ (pc : Int) + off = (a : Int))
    | .ifnonnull off => (len = 3 ∧ (pc : Int) + off = (a : Int))
    | .goto off => (len = 3 ∧ (pc : Int) + off = (a : Int))
    | .tableswitch dflt lo hi offs => ((dflt :: offs.toList).all (fun o => decide (0 ≤ (pc : Int) + o)) = true ∧ (offs.size : Int) = hi - lo + 1)
    | .lookupswitch dflt ps => ((ps.toList.zip (ps.toList.drop 1)).all (fun (a, next) => a.1 < next.1) = true ∧ (dflt :: ps.toList.map (·.2)).all (fun o => decide (0 ≤ (pc : Int) + o)) = true)
    | .getfield idx => (((len = 3 ∧ a ≤ 10) ∧ b < clK a) ∧ Cond.fieldLink y.cls idx (clT a b).1 (clT a b).2.1 (clT a b).2.2.1 ∈ lw_tbl)
    | .putfield idx => (((((len = 3 ∧ a < 10) ∧ b < clK a) ∧ Cond.fieldLink y.cls idx (clT a b).1 (clT a b).2.1 (clT a b).2.2.1 ∈ lw_tbl) ∧ ((clT a b).2.2.2 = false ∨ ((clT a b).2.2.2 = true ∧ y.name = "<init>" ∧ (clT a b).1 = y.cls))) ∧ tyC q (clY a b) = true)
    | .getstatic idx => ((len = 3 ∧ a < 4) ∧ Cond.fieldLink y.cls idx (stN a).1 (stN a).2.1 (stN a).2.2 ∈ lw_tbl)
    | .new idx => ((((len = 3 ∧ a < 10) ∧ Cond.classLink y.cls idx (clN a) ∈ lw_tbl) ∧ Cond.instantiable (clN a) (clK a) ∈ lw_tbl) ∧ Cond.initialized (clN a) ∈ lw_tbl)
    | .newarray t => (((len = 2 ∧ a < 3) ∧ newarray.typeOf t = aT a) ∧ Cond.arrayClass (aT a) ∈ lw_tbl)
    | .anewarray idx => ((len = 3 ∧ Cond.classLink y.cls idx (FieldType.array .byte).toString ∈ lw_tbl) ∧ Cond.arrayOver (.array .byte) ∈ lw_tbl)
    | .invokevirtual idx => (len = 3 ∧ (a = 999 ∨ (((((Mok a ∧ Cond.methodLink y.cls idx (mY a) ∈ lw_tbl) ∧ Cond.instanceMethod (mY a) ∈ lw_tbl) ∧ Cond.selects (clN b) (mY a) (mY a) ∈ lw_tbl) ∧ b ≤ 10) ∧ q = mN a)))
    | .invokestatic idx => (len = 3 ∧ ((((a = 999 ∨ ((((a = 900 ∧ Cond.methodLink y.cls idx arraycopyName ∈ lw_tbl) ∧ Cond.native arraycopyName ∈ lw_tbl) ∧ Cond.static arraycopyName ∈ lw_tbl) ∧ Cond.initialized "java/lang/System" ∈ lw_tbl)) ∨ ((((a = 902 ∧ Cond.methodLink y.cls idx Lib.Math.max.name ∈ lw_tbl) ∧ Cond.static Lib.Math.max.name ∈ lw_tbl) ∧ Cond.initialized "java/lang/Math" ∈ lw_tbl) ∧ Cond.code Lib.Math.max.name Lib.Math.max.code 2 (some .int) ∈ lw_tbl)) ∨ ((((a = 903 ∧ Cond.methodLink y.cls idx Lib.Math.min.name ∈ lw_tbl) ∧ Cond.static Lib.Math.min.name ∈ lw_tbl) ∧ Cond.initialized "java/lang/Math" ∈ lw_tbl) ∧ Cond.code Lib.Math.min.name Lib.Math.min.code 2 (some .int) ∈ lw_tbl)) ∨ ((((a < 900 ∧ Mok a) ∧ Cond.methodLink y.cls idx (mY a) ∈ lw_tbl) ∧ Cond.static (mY a) ∈ lw_tbl) ∧ q = mN a)))
    | .invokespecial idx => (len = 3 ∧ ((a = 999 ∨ (((a = 901 ∧ Cond.methodLink y.cls idx Lib.objectInit ∈ lw_tbl) ∧ Cond.instanceMethod Lib.objectInit ∈ lw_tbl) ∧ Cond.code Lib.objectInit ⟨#[0xb1]⟩ 1 none ∈ lw_tbl)) ∨ ((((((a < 900 ∧ Mok a) ∧ Cond.methodLink y.cls idx (mY a) ∈ lw_tbl) ∧ Cond.instanceMethod (mY a) ∈ lw_tbl) ∧ q = mN a) ∧ mR a = none) ∧ (mY a).name = "<init>")))
    | .checkcast _ => True
    | _ => len = 1
def okC (i : Nat) (cd : Cd) : Prop := ∀ e ∈ cd, decode (mC i) e.1 = .ok (e.2.1, e.2.2.1) ∧ OkP (mY i) e.1 e.2
def fe (cd : Cd) (pc : Nat) : Option RI := (cd.find? (fun e => e.1 == pc)).map (·.2)
theorem fe_mem {cd : Cd} {pc : Nat} {r : RI} (h : fe cd pc = some r) : (pc, r) ∈ cd := by
  obtain ⟨e, h1, h2⟩ := Option.map_eq_some_iff.mp h
  have h3 := List.mem_of_find?_eq_some h1
  have h4 := List.find?_some h1
  have h5 : e.1 = pc := by simpa using h4
  subst h5; subst h2
  exact h3
abbrev Kt : Type := Nat → List Value → List Value → Nat → Nat → Mf → Prop
def nthV : List Value → Nat → Value
  | [], _ => .null
  | v :: _, 0 => v
  | _ :: vs, k + 1 => nthV vs k
theorem nthV_eq : ∀ (fs : List Value) (k : Nat), vp_V fs k = nthV fs k
  | [], _ => rfl
  | _ :: _, 0 => rfl
  | _ :: vs, k + 1 => nthV_eq vs k
def catS : List Value → Nat
  | [] => 0
  | v :: vs => v.category + catS vs
theorem catS_eq : ∀ st : List Value, (st.map fun v => v.category).sum = catS st
  | [] => rfl
  | v :: vs => by rw [List.map_cons, List.sum_cons, catS_eq vs]; rfl
def popA : Nat → List Value → List Value → (List Value → List Value → Prop) → Prop
  | 0, acc, st, k => k acc st
  | m + 1, acc, v :: st, k => popA m (v :: acc) st k
  | _ + 1, _, [], _ => False
theorem popA_spec : ∀ (m : Nat) (acc st : List Value) (k : List Value → List Value → Prop), popA m acc st k → ∃ As st', st = As.reverse ++ st' ∧ As.length = m ∧ k (As ++ acc) st'
  | 0, acc, st, k, h => ⟨[], st, rfl, rfl, h⟩
  | m + 1, acc, v :: st, k, h => by
    obtain ⟨As, st', h1, h2, h3⟩ := popA_spec m (v :: acc) st k h
    exact ⟨As ++ [v], st', by rw [h1]; simp, by simp [h2], by simpa using h3⟩
  | m + 1, acc, [], k, h => h.elim
def swt (x : Int32) (pc : Nat) (k : Nat → Prop) : List Int → Int → Prop
  | [], _ => True
  | o :: os, i => (x.toInt = i → k ((pc : Int) + o).toNat) ∧ swt x pc k os (i + 1)
theorem swt_spec {x : Int32} {pc : Nat} {k : Nat → Prop} : ∀ {os : List Int} {i : Int}, swt x pc k os i → ∀ (j : Nat) (o : Int), os[j]? = some o → x.toInt = i + j → k ((pc : Int) + o).toNat
  | [], _, _, j, o, h, _ => by simp at h
  | o :: os, i, h, 0, o', h1, h2 => by simp at h1; subst h1; exact h.1 (by simpa using h2)
  | o :: os, i, h, j + 1, o', h1, h2 => swt_spec h.2 j o' (by simpa using h1) (by push_cast at h2; omega)
def lks (x : Int32) (pc : Nat) (k : Nat → Prop) (dflt : Int) : List (Int × Int) → Prop
  | [] => k ((pc : Int) + dflt).toNat
  | (m, o) :: ps => (x.toInt = m → k ((pc : Int) + o).toNat) ∧ (¬ x.toInt = m → lks x pc k dflt ps)
theorem lks_spec {x : Int32} {pc : Nat} {k : Nat → Prop} {dflt : Int} : ∀ {ps : List (Int × Int)}, lks x pc k dflt ps → k ((pc : Int) + Op.lookupswitch.offset ps dflt x.toInt).toNat
  | [], h => h
  | (m, o) :: ps, h => by
    rw [Op.lookupswitch.offset_cons]
    by_cases q : x.toInt = m
    · rw [if_pos q.symm]; exact h.1 q
    · rw [if_neg (Ne.symm q)]; exact lks_spec (h.2 q)
theorem lks_in {pc : Nat} {dflt : Int} {x : Int32} : ∀ {ps : List (Int × Int)}, (dflt :: ps.map (·.2)).all (fun o => decide (0 ≤ (pc : Int) + o)) = true → 0 ≤ (pc : Int) + Op.lookupswitch.offset ps dflt x.toInt
  | [], h => by have h1 := List.all_eq_true.mp h dflt List.mem_cons_self; exact of_decide_eq_true h1
  | (m, o) :: ps, h => by
    have h1 := List.all_eq_true.mp h
    rw [Op.lookupswitch.offset_cons]
    by_cases q : x.toInt = m
    · rw [if_pos q.symm]; exact of_decide_eq_true (h1 o (by simp))
    · rw [if_neg (Ne.symm q)]
      refine lks_in (List.all_eq_true.mpr fun w hw => h1 w ?_)
      rcases List.mem_cons.mp hw with e | e
      · rw [e]; exact List.mem_cons_self
      · exact List.mem_cons_of_mem _ (List.mem_cons_of_mem _ e)
def stp (G : Gam) (X : Fx) (k : Kt) (ins : Instr) (a b : Nat) (c : Int32) (q : Nat) (pc : Nat) (ls st : List Value) (n z : Nat) (f : Mf) : Prop := match ins with
  | .iadd => (match st with | .int y :: .int x :: r => k (pc + 1) ls (.int (x + y) :: r) n z f | _ => False)
  | .isub => (match st with | .int y :: .int x :: r => k (pc + 1) ls (.int (x - y) :: r) n z f | _ => False)
  | .imul => (match st with | .int y :: .int x :: r => k (pc + 1) ls (.int (x * y) :: r) n z f | _ => False)
  | .iand => (match st with | .int y :: .int x :: r => k (pc + 1) ls (.int (x &&& y) :: r) n z f | _ => False)
  | .ior => (match st with | .int y :: .int x :: r => k (pc + 1) ls (.int (x ||| y) :: r) n z f | _ => False)
  | .ishl => (match st with | .int y :: .int x :: r => k (pc + 1) ls (.int (x <<< (y &&& 31)) :: r) n z f | _ => False)
  | .ishr => (match st with | .int y :: .int x :: r => k (pc + 1) ls (.int (x >>> (y &&& 31)) :: r) n z f | _ => False)
  | .iushr => (match st with | .int y :: .int x :: r => k (pc + 1) ls (.int ((x.toUInt32 >>> (y.toUInt32 &&& Int32.toUInt32 31)).toInt32) :: r) n z f | _ => False)
  | .idiv => (match st with | .int y :: .int x :: r => ¬ y = 0 ∧ k (pc + 1) ls (.int (x / y) :: r) n z f | _ => False)
  | .irem => (match st with | .int y :: .int x :: r => ¬ y = 0 ∧ k (pc + 1) ls (.int (x - x / y * y) :: r) n z f | _ => False)
  | .land => (match st with | .long y :: .long x :: r => k (pc + 1) ls (.long (x &&& y) :: r) n z f | _ => False)
  | .lor => (match st with | .long y :: .long x :: r => k (pc + 1) ls (.long (x ||| y) :: r) n z f | _ => False)
  | .lxor => (match st with | .long y :: .long x :: r => k (pc + 1) ls (.long (x ^^^ y) :: r) n z f | _ => False)
  | .lshl => (match st with | .int y :: .long x :: r => k (pc + 1) ls (.long (x <<< (y.toInt64 &&& 63)) :: r) n z f | _ => False)
  | .lushr => (match st with | .int y :: .long x :: r => k (pc + 1) ls (.long ((x.toUInt64 >>> (y.toInt64.toUInt64 &&& Int64.toUInt64 63)).toInt64) :: r) n z f | _ => False)
  | .lcmp => (match st with | .long y :: .long x :: r => k (pc + 1) ls (.int (lg_cmp x y) :: r) n z f | _ => False)
  | .i2l => (match st with | .int x :: r => k (pc + 1) ls (.long x.toInt64 :: r) n z f | _ => False)
  | .i2b => (match st with | .int x :: r => k (pc + 1) ls (.int x.toInt8.toInt32 :: r) n z f | _ => False)
  | .i2c => (match st with | .int x :: r => k (pc + 1) ls (.int (x.toUInt32 % 65536).toInt32 :: r) n z f | _ => False)
  | .iconst w => k (pc + 1) ls (.int c :: st) n z f
  | .bipush w => k (pc + 2) ls (.int c :: st) n z f
  | .sipush w => k (pc + 3) ls (.int c :: st) n z f
  | .lconst w => k (pc + 1) ls (.long (Int64.ofNat (w : Nat)) :: st) n z f
  | .aconst_null => k (pc + 1) ls (.null :: st) n z f
  | .dup => (match st with | v :: r => v.category = 1 ∧ k (pc + 1) ls (v :: v :: r) n z f | _ => False)
  | .pop => (match st with | v :: r => v.category = 1 ∧ k (pc + 1) ls r n z f | _ => False)
  | .dup2 => (match st with | v :: w :: r => v.category = 1 ∧ w.category = 1 ∧ k (pc + 1) ls (v :: w :: v :: w :: r) n z f | _ => False)
  | .iload i => (match ls[a]? with | some (.int x) => k (pc + 2) ls (.int x :: st) n z f | _ => False)
  | .lload i => (match ls[a]? with | some (.long x) => k (pc + 2) ls (.long x :: st) n z f | _ => False)
  | .iload_n i => (match ls[a]? with | some (.int x) => k (pc + 1) ls (.int x :: st) n z f | _ => False)
  | .lload_n i => (match ls[a]? with | some (.long x) => k (pc + 1) ls (.long x :: st) n z f | _ => False)
  | .aload i => (match ls[a]? with | some (.ref x) => k (pc + 2) ls (.ref x :: st) n z f | some .null => k (pc + 2) ls (.null :: st) n z f | _ => False)
  | .aload_n i => (match ls[a]? with | some (.ref x) => k (pc + 1) ls (.ref x :: st) n z f | some .null => k (pc + 1) ls (.null :: st) n z f | _ => False)
  | .istore i => (match st with | .int x :: r => a < ls.length ∧ noL ls a = true ∧ k (pc + 2) (ls.set a (.int x)) r n z f | _ => False)
  | .istore_n i => (match st with | .int x :: r => a < ls.length ∧ noL ls a = true ∧ k (pc + 1) (ls.set a (.int x)) r n z f | _ => False)
  | .astore i => (match st with | .ref x :: r => a < ls.length ∧ noL ls a = true ∧ k (pc + 2) (ls.set a (.ref x)) r n z f | .null :: r => a < ls.length ∧ noL ls a = true ∧ k (pc + 2) (ls.set a .null) r n z f | _ => False)
  | .astore_n i => (match st with | .ref x :: r => a < ls.length ∧ noL ls a = true ∧ k (pc + 1) (ls.set a (.ref x)) r n z f | .null :: r => a < ls.length ∧ noL ls a = true ∧ k (pc + 1) (ls.set a .null) r n z f | _ => False)
  | .lstore i => (match st with | .long x :: r => a + 1 < ls.length ∧ noL ls a = true ∧ k (pc + 2) ((ls.set a (.long x)).set (a + 1) dead) r n z f | _ => False)
  | .iinc i w => (match ls[a]? with | some (.int x) => noL ls a = true ∧ k (pc + 3) (ls.set a (.int (x + c))) st n z f | _ => False)
  | .ifCond .eq w => (match st with | .int x :: r => (x = 0 → k a ls r n z f) ∧ (¬ x = 0 → k (pc + 3) ls r n z f) | _ => False)
  | .if_icmp .eq w => (match st with | .int y :: .int x :: r => (x = y → k a ls r n z f) ∧ (¬ x = y → k (pc + 3) ls r n z f) | _ => False)
  | .ifCond .ne w => (match st with | .int x :: r => (¬ x = 0 → k a ls r n z f) ∧ (x = 0 → k (pc + 3) ls r n z f) | _ => False)
  | .if_icmp .ne w => (match st with | .int y :: .int x :: r => (¬ x = y → k a ls r n z f) ∧ (x = y → k (pc + 3) ls r n z f) | _ => False)
  | .ifCond .lt w => (match st with | .int x :: r => (x < 0 → k a ls r n z f) ∧ (¬ x < 0 → k (pc + 3) ls r n z f) | _ => False)
  | .if_icmp .lt w => (match st with | .int y :: .int x :: r => (x < y → k a ls r n z f) ∧ (¬ x < y → k (pc + 3) ls r n z f) | _ => False)
  | .ifCond .ge w => (match st with | .int x :: r => (0 ≤ x → k a ls r n z f) ∧ (¬ 0 ≤ x → k (pc + 3) ls r n z f) | _ => False)
  | .if_icmp .ge w => (match st with | .int y :: .int x :: r => (y ≤ x → k a ls r n z f) ∧ (¬ y ≤ x → k (pc + 3) ls r n z f) | _ => False)
  | .ifCond .gt w => (match st with | .int x :: r => (0 < x → k a ls r n z f) ∧ (¬ 0 < x → k (pc + 3) ls r n z f) | _ => False)
  | .if_icmp .gt w => (match st with | .int y :: .int x :: r => (y < x → k a ls r n z f) ∧ (¬ y < x → k (pc + 3) ls r n z f) | _ => False)
  | .ifCond .le w => (match st with | .int x :: r => (x ≤ 0 → k a ls r n z f) ∧ (¬ x ≤ 0 → k (pc + 3) ls r n z f) | _ => False)
  | .if_icmp .le w => (match st with | .int y :: .int x :: r => (x ≤ y → k a ls r n z f) ∧ (¬ x ≤ y → k (pc + 3) ls r n z f) | _ => False)
  | .ifnonnull w => (match st with | .ref x :: r => k a ls r n z f | .null :: r => k (pc + 3) ls r n z f | _ => False)
  | .goto w => k a ls st n z f
  | .ldc idx => (match b with | 0 => k (pc + 2) ls (.int c :: st) n z f | _ + 1 => k (pc + 2) ls (.ref a :: st) n z f)
  | .ldc_w idx => k (pc + 3) ls (.int c :: st) n z f
  | .ldc2_w idx => k (pc + 3) ls (.long c.toInt64 :: st) n z f
  | .tableswitch dflt lo hi offs => (match st with | .int x :: r => ((x.toInt < lo ∨ hi < x.toInt) → k ((pc : Int) + dflt).toNat ls r n z f) ∧ swt x pc (fun t => k t ls r n z f) offs.toList lo | _ => False)
  | .lookupswitch dflt ps => (match st with | .int x :: r => lks x pc (fun t => k t ls r n z f) dflt ps.toList | _ => False)
  | .getfield idx => (match st with | .ref r :: s => (match f r with | .inr (.inr (ci, fs)) => ci = a ∧ k (pc + 3) ls (nthV fs b :: s) n z f | _ => False) | _ => False)
  | .putfield idx => (match st with | v :: .ref r :: s => (match f r with | .inr (.inr (ci, fs)) => ci = a ∧ r < 1000000 ∧ b < fs.length ∧ fitC q v ∧ k (pc + 3) ls s n z (upC f r (.inr (.inr (a, fs.set b v)))) | _ => False) | _ => False)
  | .getstatic idx => (if a = 3 then k (pc + 3) ls (.null :: st) n z f ∧ k (pc + 3) ls (.ref 1000002 :: st) n z f else k (pc + 3) ls (sv a :: st) n z f)
  | .new idx => n + 1 ≤ CAP ∧ z + clK a ≤ SCAP ∧ k (pc + 3) ls (.ref n :: st) (n + 1) (z + clK a) (upC f n (.inr (.inr (a, new0 a))))
  | .newarray t => (match st with | .int x :: r => ¬ x < 0 ∧ x.toNatClampNeg ≤ 100000 ∧ n + 1 ≤ CAP ∧ z + x.toNatClampNeg ≤ SCAP ∧ k (pc + 2) ls (.ref n :: r) (n + 1) (z + x.toNatClampNeg) (upC f n (.inl (a, x.toNatClampNeg, fun _ => 0))) | _ => False)
  | .anewarray idx => (match st with | .int x :: r => ¬ x < 0 ∧ x.toNatClampNeg ≤ 100000 ∧ n + 1 ≤ CAP ∧ z + x.toNatClampNeg ≤ SCAP ∧ k (pc + 3) ls (.ref n :: r) (n + 1) (z + x.toNatClampNeg) (upC f n (.inr (.inl (x.toNatClampNeg, fun _ => none)))) | _ => False)
  | .arraylength => (match st with | .ref r :: s => (match f r with | .inl (t, N, g) => t < 4 ∧ k (pc + 1) ls (.int (Int32.ofNat N) :: s) n z f | _ => False) | _ => False)
  | .iaload => (match st with | .int x :: .ref r :: s => (match f r with | .inl (t, N, g) => t = 0 ∧ vp_in x N ∧ k (pc + 1) ls (.int (g x.toNatClampNeg) :: s) n z f | _ => False) | _ => False)
  | .baload => (match st with | .int x :: .ref r :: s => (match f r with | .inl (t, N, g) => (t = 1 ∨ t = 2) ∧ vp_in x N ∧ k (pc + 1) ls (.int (g x.toNatClampNeg) :: s) n z f | _ => False) | _ => False)
  | .aaload => (match st with | .int x :: .ref r :: s => (match f r with | .inr (.inl (N, g)) => vp_in x N ∧ k (pc + 1) ls (va_rf (g x.toNatClampNeg) :: s) n z f | _ => False) | _ => False)
  | .iastore => (match st with | .int y :: .int x :: .ref r :: s => (match f r with | .inl (t, N, g) => t = 0 ∧ r < 1000000 ∧ vp_in x N ∧ k (pc + 1) ls s n z (upC f r (.inl (0, N, upd g x.toNatClampNeg y))) | _ => False) | _ => False)
  | .bastore => (match st with | .int y :: .int x :: .ref r :: s => (match f r with | .inl (t, N, g) => r < 1000000 ∧ vp_in x N ∧ (match t with | 1 => k (pc + 1) ls s n z (upC f r (.inl (1, N, upd g x.toNatClampNeg y.toInt8.toInt32))) | 2 => k (pc + 1) ls s n z (upC f r (.inl (2, N, upd g x.toNatClampNeg (y &&& 1)))) | _ => False) | _ => False) | _ => False)
  | .aastore => (match st with | .ref q :: .int x :: .ref r :: s => (match f r with | .inr (.inl (N, g)) => r < 1000000 ∧ vp_in x N ∧ q < 1000000 ∧ (match f q with | .inl (t, M, b) => t = 1 ∧ k (pc + 1) ls s n z (upC f r (.inr (.inl (N, va_up g x.toNatClampNeg (some q))))) | _ => False) | _ => False) | _ => False)
  | .return_ => (match st with | [] => mR X.i = none ∧ X.Q none n z f | _ => False)
  | .ireturn => (match st with | [.int x] => retC (mR X.i) x ∧ X.Q (some (.int x)) n z f | _ => False)
  | .lreturn => (match st with | [.long x] => mR X.i = some .long ∧ X.Q (some (.long x)) n z f | _ => False)
  | .areturn => (match st with | [.ref r] => isRefT (mR X.i) = true ∧ X.Q (some (.ref r)) n z f | [.null] => isRefT (mR X.i) = true ∧ X.Q (some .null) n z f | _ => False)
  | .invokevirtual idx => (match a with | 999 => False | _ => popA q [] st (fun As s => match s with | .ref r :: s => catS s ≤ 8 ∧ 1 ≤ X.d ∧ (match f r with | .inr (.inr (ci, fs)) => ci = b ∧ ∃ Q, Tr G (X.d - 1) a (.ref r :: As) n z f Q ∧ ∀ v n' z' f', Q v n' z' f' → k (pc + 3) ls (v.toList ++ s) n' z' f' | _ => False) | _ => False))
  | .invokestatic idx => (match a with | 999 => False | 900 => (match st with | .int l :: .int y :: .ref r :: .int x :: .ref s :: t => catS t ≤ 8 ∧ 1 ≤ X.d ∧ r < 1000000 ∧ (match f s with | .inl (t1, N, g) => (match f r with | .inl (t2, M, e) => t1 = 0 ∧ t2 = 0 ∧ ¬ x < 0 ∧ ¬ y < 0 ∧ ¬ l < 0 ∧ x.toNatClampNeg + l.toNatClampNeg ≤ N ∧ y.toNatClampNeg + l.toNatClampNeg ≤ M ∧ k (pc + 3) ls t n z (upC f r (.inl (0, M, va_cpy g e x.toNatClampNeg y.toNatClampNeg l.toNatClampNeg))) | _ => False) | _ => False) | _ => False) | 902 => (match st with | .int y :: .int x :: s => catS s ≤ 8 ∧ 1 ≤ X.d ∧ k (pc + 3) ls (.int (if x < y then y else x) :: s) n z f | _ => False) | 903 => (match st with | .int y :: .int x :: s => catS s ≤ 8 ∧ 1 ≤ X.d ∧ k (pc + 3) ls (.int (if y < x then y else x) :: s) n z f | _ => False) | _ => popA q [] st (fun As s => catS s ≤ 8 ∧ 1 ≤ X.d ∧ ∃ Q, Tr G (X.d - 1) a As n z f Q ∧ ∀ v n' z' f', Q v n' z' f' → k (pc + 3) ls (v.toList ++ s) n' z' f'))
  | .invokespecial idx => (match a with | 999 => False | 901 => (match st with | .ref r :: s => catS s ≤ 8 ∧ 1 ≤ X.d ∧ k (pc + 3) ls s n z f | _ => False) | _ => popA q [] st (fun As s => match s with | .ref r :: s => catS s ≤ 8 ∧ 1 ≤ X.d ∧ ∃ Q, Tr G (X.d - 1) a (.ref r :: As) n z f Q ∧ ∀ v n' z' f', Q v n' z' f' → k (pc + 3) ls (v.toList ++ s) n' z' f' | _ => False))
  | _ => False
set_option maxHeartbeats 4000000 in
theorem stp_sound {G : Gam} {X : Fx} {k : Kt} (hk : ∀ pc ls st n z f, k pc ls st n z f → V G X pc ls st n z f) {ins : Instr} {len a b : Nat} {c : Int32} {q pc : Nat} {ls st : List Value} {n z : Nat} {f : Mf} (hd : decode (mC X.i) pc = .ok (ins, len)) (ok : OkP (mY X.i) pc (ins, len, a, b, c, q)) (h : stp G X k ins a b c q pc ls st n z f) : V G X pc ls st n z f := by
  unfold stp at h
  split at h
  · -- .iadd
    simp only [OkP] at ok
    subst ok
    split at h
    · exact v_iadd hd (hk _ _ _ _ _ _ h)
    · exact h.elim
  · -- .isub
    simp only [OkP] at ok
    subst ok
    split at h
    · exact v_isub hd (hk _ _ _ _ _ _ h)
    · exact h.elim
  · -- .imul
    simp only [OkP] at ok
    subst ok
    split at h
    · exact v_imul hd (hk _ _ _ _ _ _ h)
    · exact h.elim
  · -- .iand
    simp only [OkP] at ok
    subst ok
    split at h
    · exact v_iand hd (hk _ _ _ _ _ _ h)
    · exact h.elim
  · -- .ior
    simp only [OkP] at ok
    subst ok
    split at h
    · exact v_ior hd (hk _ _ _ _ _ _ h)
    · exact h.elim
  · -- .ishl
    simp only [OkP] at ok
    subst ok
    split at h
    · exact v_ishl hd (hk _ _ _ _ _ _ h)
    · exact h.elim
  · -- .ishr
    simp only [OkP] at ok
    subst ok
    split at h
    · exact v_ishr hd (hk _ _ _ _ _ _ h)
    · exact h.elim
  · -- .iushr
    simp only [OkP] at ok
    subst ok
    split at h
    · exact v_iushr hd (hk _ _ _ _ _ _ h)
    · exact h.elim
  · -- .idiv
    simp only [OkP] at ok
    subst ok
    split at h
    · exact v_idiv hd h.1 (hk _ _ _ _ _ _ h.2)
    · exact h.elim
  · -- .irem
    simp only [OkP] at ok
    subst ok
    split at h
    · exact v_irem hd h.1 (hk _ _ _ _ _ _ h.2)
    · exact h.elim
  · -- .land
    simp only [OkP] at ok
    subst ok
    split at h
    · exact v_land hd (hk _ _ _ _ _ _ h)
    · exact h.elim
  · -- .lor
    simp only [OkP] at ok
    subst ok
    split at h
    · exact v_lor hd (hk _ _ _ _ _ _ h)
    · exact h.elim
  · -- .lxor
    simp only [OkP] at ok
    subst ok
    split at h
    · exact v_lxor hd (hk _ _ _ _ _ _ h)
    · exact h.elim
  · -- .lshl
    simp only [OkP] at ok
    subst ok
    split at h
    · exact v_lshl hd (hk _ _ _ _ _ _ h)
    · exact h.elim
  · -- .lushr
    simp only [OkP] at ok
    subst ok
    split at h
    · exact v_lushr hd (hk _ _ _ _ _ _ h)
    · exact h.elim
  · -- .lcmp
    simp only [OkP] at ok
    subst ok
    split at h
    · exact v_lcmp hd (hk _ _ _ _ _ _ h)
    · exact h.elim
  · -- .i2l
    simp only [OkP] at ok
    subst ok
    split at h
    · exact v_i2l hd (hk _ _ _ _ _ _ h)
    · exact h.elim
  · -- .i2b
    simp only [OkP] at ok
    subst ok
    split at h
    · exact v_i2b hd (hk _ _ _ _ _ _ h)
    · exact h.elim
  · -- .i2c
    simp only [OkP] at ok
    subst ok
    split at h
    · exact v_i2c hd (hk _ _ _ _ _ _ h)
    · exact h.elim
  · -- .iconst w
    simp only [OkP] at ok
    have hlen := ok.2
    subst hlen
    exact v_iconst hd ok.1 (hk _ _ _ _ _ _ h)
  · -- .bipush w
    simp only [OkP] at ok
    have hlen := ok.2
    subst hlen
    exact v_bipush hd ok.1 (hk _ _ _ _ _ _ h)
  · -- .sipush w
    simp only [OkP] at ok
    have hlen := ok.2
    subst hlen
    exact v_sipush hd ok.1 (hk _ _ _ _ _ _ h)
  · -- .lconst w
    simp only [OkP] at ok
    subst ok
    exact v_lconst hd (hk _ _ _ _ _ _ h)
  · -- .aconst_null
    simp only [OkP] at ok
    subst ok
    exact v_null hd (hk _ _ _ _ _ _ h)
  · -- .dup
    simp only [OkP] at ok
    subst ok
    split at h
    · exact v_dup hd h.1 (hk _ _ _ _ _ _ h.2)
    · exact h.elim
  · -- .pop
    simp only [OkP] at ok
    subst ok
    split at h
    · exact v_pop hd h.1 (hk _ _ _ _ _ _ h.2)
    · exact h.elim
  · -- .dup2
    simp only [OkP] at ok
    subst ok
    split at h
    · exact v_dup2 hd h.1 h.2.1 (hk _ _ _ _ _ _ h.2.2)
    · exact h.elim
  · -- .iload i
    simp only [OkP] at ok
    have hlen := ok.1
    subst hlen
    obtain ⟨-, rfl⟩ := ok
    split at h
    · next hl => exact v_iload hd hl (hk _ _ _ _ _ _ h)
    · exact h.elim
  · -- .lload i
    simp only [OkP] at ok
    have hlen := ok.1
    subst hlen
    obtain ⟨-, rfl⟩ := ok
    split at h
    · next hl => exact v_lload hd hl (hk _ _ _ _ _ _ h)
    · exact h.elim
  · -- .iload_n i
    simp only [OkP] at ok
    have hlen := ok.1
    subst hlen
    split at h
    · next hl => exact v_iload_n hd ok.2 hl (hk _ _ _ _ _ _ h)
    · exact h.elim
  · -- .lload_n i
    simp only [OkP] at ok
    have hlen := ok.1
    subst hlen
    split at h
    · next hl => exact v_lload_n hd ok.2 hl (hk _ _ _ _ _ _ h)
    · exact h.elim
  · -- .aload i
    simp only [OkP] at ok
    have hlen := ok.1
    subst hlen
    obtain ⟨-, rfl⟩ := ok
    split at h
    · next hl => exact v_aload hd hl (hk _ _ _ _ _ _ h)
    · next hl => exact v_aload0 hd hl (hk _ _ _ _ _ _ h)
    · exact h.elim
  · -- .aload_n i
    simp only [OkP] at ok
    have hlen := ok.1
    subst hlen
    split at h
    · next hl => exact v_aload_n hd ok.2 hl (hk _ _ _ _ _ _ h)
    · next hl => exact v_aload0_n hd ok.2 hl (hk _ _ _ _ _ _ h)
    · exact h.elim
  · -- .istore i
    simp only [OkP] at ok
    have hlen := ok.1
    subst hlen
    obtain ⟨-, rfl⟩ := ok
    split at h
    · exact v_istore hd h.1 h.2.1 (hk _ _ _ _ _ _ h.2.2)
    · exact h.elim
  · -- .istore_n i
    simp only [OkP] at ok
    have hlen := ok.1
    subst hlen
    split at h
    · exact v_istore_n hd ok.2 h.1 h.2.1 (hk _ _ _ _ _ _ h.2.2)
    · exact h.elim
  · -- .astore i
    simp only [OkP] at ok
    have hlen := ok.1
    subst hlen
    obtain ⟨-, rfl⟩ := ok
    split at h
    · exact v_astore hd h.1 h.2.1 (hk _ _ _ _ _ _ h.2.2)
    · exact v_astore0 hd h.1 h.2.1 (hk _ _ _ _ _ _ h.2.2)
    · exact h.elim
  · -- .astore_n i
    simp only [OkP] at ok
    have hlen := ok.1
    subst hlen
    split at h
    · exact v_astore_n hd ok.2 h.1 h.2.1 (hk _ _ _ _ _ _ h.2.2)
    · exact v_astore0_n hd ok.2 h.1 h.2.1 (hk _ _ _ _ _ _ h.2.2)
    · exact h.elim
  · -- .lstore i
    simp only [OkP] at ok
    have hlen := ok.1
    subst hlen
    obtain ⟨-, rfl⟩ := ok
    split at h
    · exact v_lstore hd h.1 h.2.1 (hk _ _ _ _ _ _ h.2.2)
    · exact h.elim
  · -- .iinc i w
    simp only [OkP] at ok
    have hlen := ok.1.1
    subst hlen
    obtain ⟨⟨-, rfl⟩, hc⟩ := ok
    split at h
    · next hl => exact v_iinc hd hc hl h.1 (hk _ _ _ _ _ _ h.2)
    · exact h.elim
  · -- .ifCond .eq w
    simp only [OkP] at ok
    have hlen := ok.1
    subst hlen
    split at h
    · exact v_if_eq hd ok.2 (fun q => hk _ _ _ _ _ _ (h.1 q)) (fun q => hk _ _ _ _ _ _ (h.2 q))
    · exact h.elim
  · -- .if_icmp .eq w
    simp only [OkP] at ok
    have hlen := ok.1
    subst hlen
    split at h
    · exact v_icmp_eq hd ok.2 (fun q => hk _ _ _ _ _ _ (h.1 q)) (fun q => hk _ _ _ _ _ _ (h.2 q))
    · exact h.elim
  · -- .ifCond .ne w
    simp only [OkP] at ok
    have hlen := ok.1
    subst hlen
    split at h
    · exact v_if_ne hd ok.2 (fun q => hk _ _ _ _ _ _ (h.1 q)) (fun q => hk _ _ _ _ _ _ (h.2 q))
    · exact h.elim
  · -- .if_icmp .ne w
    simp only [OkP] at ok
    have hlen := ok.1
    subst hlen
    split at h
    · exact v_icmp_ne hd ok.2 (fun q => hk _ _ _ _ _ _ (h.1 q)) (fun q => hk _ _ _ _ _ _ (h.2 q))
    · exact h.elim
  · -- .ifCond .lt w
    simp only [OkP] at ok
    have hlen := ok.1
    subst hlen
    split at h
    · exact v_if_lt hd ok.2 (fun q => hk _ _ _ _ _ _ (h.1 q)) (fun q => hk _ _ _ _ _ _ (h.2 q))
    · exact h.elim
  · -- .if_icmp .lt w
    simp only [OkP] at ok
    have hlen := ok.1
    subst hlen
    split at h
    · exact v_icmp_lt hd ok.2 (fun q => hk _ _ _ _ _ _ (h.1 q)) (fun q => hk _ _ _ _ _ _ (h.2 q))
    · exact h.elim
  · -- .ifCond .ge w
    simp only [OkP] at ok
    have hlen := ok.1
    subst hlen
    split at h
    · exact v_if_ge hd ok.2 (fun q => hk _ _ _ _ _ _ (h.1 q)) (fun q => hk _ _ _ _ _ _ (h.2 q))
    · exact h.elim
  · -- .if_icmp .ge w
    simp only [OkP] at ok
    have hlen := ok.1
    subst hlen
    split at h
    · exact v_icmp_ge hd ok.2 (fun q => hk _ _ _ _ _ _ (h.1 q)) (fun q => hk _ _ _ _ _ _ (h.2 q))
    · exact h.elim
  · -- .ifCond .gt w
    simp only [OkP] at ok
    have hlen := ok.1
    subst hlen
    split at h
    · exact v_if_gt hd ok.2 (fun q => hk _ _ _ _ _ _ (h.1 q)) (fun q => hk _ _ _ _ _ _ (h.2 q))
    · exact h.elim
  · -- .if_icmp .gt w
    simp only [OkP] at ok
    have hlen := ok.1
    subst hlen
    split at h
    · exact v_icmp_gt hd ok.2 (fun q => hk _ _ _ _ _ _ (h.1 q)) (fun q => hk _ _ _ _ _ _ (h.2 q))
    · exact h.elim
  · -- .ifCond .le w
    simp only [OkP] at ok
    have hlen := ok.1
    subst hlen
    split at h
    · exact v_if_le hd ok.2 (fun q => hk _ _ _ _ _ _ (h.1 q)) (fun q => hk _ _ _ _ _ _ (h.2 q))
    · exact h.elim
  · -- .if_icmp .le w
    simp only [OkP] at ok
    have hlen := ok.1
    subst hlen
    split at h
    · exact v_icmp_le hd ok.2 (fun q => hk _ _ _ _ _ _ (h.1 q)) (fun q => hk _ _ _ _ _ _ (h.2 q))
    · exact h.elim
  · -- .ifnonnull w
    simp only [OkP] at ok
    have hlen := ok.1
    subst hlen
    split at h
    · exact v_ifnonnull hd ok.2 (hk _ _ _ _ _ _ h)
    · exact v_ifnonnull0 hd (hk _ _ _ _ _ _ h)
    · exact h.elim
  · -- .goto w
    simp only [OkP] at ok
    have hlen := ok.1
    subst hlen
    exact v_goto hd ok.2 (hk _ _ _ _ _ _ h)
  · -- .ldc idx
    simp only [OkP] at ok
    have hlen := ok.1
    subst hlen
    rcases b with _ | b
    · exact v_ldc hd ok.2 (hk _ _ _ _ _ _ h)
    · obtain ⟨j, tx, o1, o2, o3⟩ := ok.2
      have h1 := hk _ _ _ _ _ _ h
      rw [o3] at h1
      exact v_ldcS hd o2 o1 h1
  · -- .ldc_w idx
    simp only [OkP] at ok
    have hlen := ok.1
    subst hlen
    exact v_ldcw hd ok.2 (hk _ _ _ _ _ _ h)
  · -- .ldc2_w idx
    simp only [OkP] at ok
    have hlen := ok.1
    subst hlen
    exact v_ldc2 hd ok.2 (hk _ _ _ _ _ _ h)
  · -- .tableswitch dflt lo hi offs
    simp only [OkP] at ok
    skip
    split at h
    · exact v_table hd ok.1 ok.2 (fun q => hk _ _ _ _ _ _ (h.1 q)) (fun j o q1 q2 => hk _ _ _ _ _ _ (swt_spec h.2 j o q1 q2))
    · exact h.elim
  · -- .lookupswitch dflt ps
    simp only [OkP] at ok
    skip
    split at h
    · exact v_lookup hd ok.1 ok.2 (hk _ _ _ _ _ _ (lks_spec h)) (lks_in ok.2)
    · exact h.elim
  · -- .getfield idx
    simp only [OkP] at ok
    have hlen := ok.1.1.1
    subst hlen
    split at h
    · split at h
      · next hf => obtain ⟨rfl, h⟩ := h; exact v_getfield hd ok.1.1.2 ok.1.2 ok.2 hf (by rw [nthV_eq]; exact hk _ _ _ _ _ _ h)
      · exact h.elim
    · exact h.elim
  · -- .putfield idx
    simp only [OkP] at ok
    have hlen := ok.1.1.1.1.1
    subst hlen
    split at h
    · split at h
      · next hf => obtain ⟨rfl, h1, h2, h3, h⟩ := h; exact v_putfield hd ok.1.1.1.1.2 ok.1.1.1.2 ok.1.1.2 ok.1.2 ok.2 h1 hf h2 h3 (hk _ _ _ _ _ _ h)
      · exact h.elim
    · exact h.elim
  · -- .getstatic idx
    simp only [OkP] at ok
    have hlen := ok.1.1
    subst hlen
    split at h
    · next e => subst e; exact v_getstatic3 hd ok.2 (hk _ _ _ _ _ _ h.1) (hk _ _ _ _ _ _ h.2)
    · exact v_getstatic hd (by have := ok.1.2; omega) ok.2 (hk _ _ _ _ _ _ h)
  · -- .new idx
    simp only [OkP] at ok
    have hlen := ok.1.1.1.1
    subst hlen
    exact v_new hd ok.1.1.1.2 ok.1.1.2 ok.1.2 ok.2 h.1 h.2.1 (hk _ _ _ _ _ _ h.2.2)
  · -- .newarray t
    simp only [OkP] at ok
    have hlen := ok.1.1.1
    subst hlen
    split at h
    · exact v_newarray hd ok.1.1.2 ok.1.2 ok.2 h.1 h.2.1 h.2.2.1 h.2.2.2.1 (hk _ _ _ _ _ _ h.2.2.2.2)
    · exact h.elim
  · -- .anewarray idx
    simp only [OkP] at ok
    have hlen := ok.1.1
    subst hlen
    split at h
    · exact v_anewarray hd ok.1.2 ok.2 h.1 h.2.1 h.2.2.1 h.2.2.2.1 (hk _ _ _ _ _ _ h.2.2.2.2)
    · exact h.elim
  · -- .arraylength
    simp only [OkP] at ok
    subst ok
    split at h
    · split at h
      · next hf => exact v_alen hd h.1 hf (hk _ _ _ _ _ _ h.2)
      · exact h.elim
    · exact h.elim
  · -- .iaload
    simp only [OkP] at ok
    subst ok
    split at h
    · split at h
      · next hf => obtain ⟨rfl, h1, h⟩ := h; exact v_iaload hd hf h1 (hk _ _ _ _ _ _ h)
      · exact h.elim
    · exact h.elim
  · -- .baload
    simp only [OkP] at ok
    subst ok
    split at h
    · split at h
      · next hf => exact v_baload hd h.1 hf h.2.1 (hk _ _ _ _ _ _ h.2.2)
      · exact h.elim
    · exact h.elim
  · -- .aaload
    simp only [OkP] at ok
    subst ok
    split at h
    · split at h
      · next hf => exact v_aaload hd hf h.1 (hk _ _ _ _ _ _ h.2)
      · exact h.elim
    · exact h.elim
  · -- .iastore
    simp only [OkP] at ok
    subst ok
    split at h
    · split at h
      · next hf => obtain ⟨rfl, h0, h1, h⟩ := h; exact v_iastore hd h0 hf h1 (hk _ _ _ _ _ _ h)
      · exact h.elim
    · exact h.elim
  · -- .bastore
    simp only [OkP] at ok
    subst ok
    split at h
    · split at h
      · next hf =>
        obtain ⟨h0, h1, h⟩ := h
        split at h
        · exact v_bastore hd h0 hf h1 (hk _ _ _ _ _ _ h)
        · exact v_zastore hd h0 hf h1 (hk _ _ _ _ _ _ h)
        · exact h.elim
      · exact h.elim
    · exact h.elim
  · -- .aastore
    simp only [OkP] at ok
    subst ok
    split at h
    · split at h
      · next hf =>
        obtain ⟨h0, h1, hq0, h⟩ := h
        split at h
        · next hq => obtain ⟨rfl, h⟩ := h; exact v_aastore hd h0 hf h1 hq0 hq (hk _ _ _ _ _ _ h)
        · exact h.elim
      · exact h.elim
    · exact h.elim
  · -- .return_
    simp only [OkP] at ok
    subst ok
    split at h
    · exact v_return hd h.1 h.2
    · exact h.elim
  · -- .ireturn
    simp only [OkP] at ok
    subst ok
    split at h
    · exact v_ireturn hd h.1 h.2
    · exact h.elim
  · -- .lreturn
    simp only [OkP] at ok
    subst ok
    split at h
    · exact v_lreturn hd h.1 h.2
    · exact h.elim
  · -- .areturn
    simp only [OkP] at ok
    subst ok
    split at h
    · exact v_areturn hd h.1 (Or.inr ⟨_, rfl⟩) h.2
    · exact v_areturn hd h.1 (Or.inl rfl) h.2
    · exact h.elim
  · -- .invokevirtual idx
    simp only [OkP] at ok
    have hlen := ok.1
    subst hlen
    split at h
    · exact h.elim
    · next ha =>
      obtain ⟨As, s, rfl, h2, h⟩ := popA_spec _ _ _ _ h
      rw [List.append_nil] at h
      split at h
      · obtain ⟨h3, h4, h⟩ := h
        split at h
        · next hf =>
          obtain ⟨rfl, Q, hT, h⟩ := h
          rcases ok.2 with e | ⟨⟨⟨⟨⟨o1, o2⟩, o3⟩, o4⟩, o5⟩, o6⟩
          · exact absurd e ha
          · exact v_callV hd (d := X.d - 1) (by omega) o1 o2 o3 o4 o5 (h2.trans o6) (by rw [catS_eq]; exact h3) hf hT (fun v n' z' f' hq => hk _ _ _ _ _ _ (h v n' z' f' hq))
        · exact h.elim
      · exact h.elim
  · -- .invokestatic idx
    simp only [OkP] at ok
    have hlen := ok.1
    subst hlen
    split at h
    · exact h.elim
    · split at h
      · obtain ⟨h3, h4, h5, h⟩ := h
        split at h
        · next hs =>
          split at h
          · next hr =>
            obtain ⟨rfl, rfl, g1, g2, g3, g4, g5, h⟩ := h
            rcases ok.2 with (((e | ⟨⟨⟨⟨-, o1⟩, o2⟩, o3⟩, o4⟩) | ⟨⟨⟨⟨e, -⟩, -⟩, -⟩, -⟩) | ⟨⟨⟨⟨e, -⟩, -⟩, -⟩, -⟩) | ⟨⟨⟨⟨e, -⟩, -⟩, -⟩, -⟩
            · cases e
            · exact v_copy hd h4 o1 o2 o3 o4 (by rw [catS_eq]; exact h3) h5 hs hr g1 g2 g3 g4 g5 (hk _ _ _ _ _ _ h)
            · cases e
            · cases e
            · omega
          · exact h.elim
        · exact h.elim
      · exact h.elim
    · split at h
      · obtain ⟨h3, h4, h⟩ := h
        rcases ok.2 with (((e | ⟨⟨⟨⟨e, -⟩, -⟩, -⟩, -⟩) | ⟨⟨⟨⟨-, o1⟩, o2⟩, o3⟩, o4⟩) | ⟨⟨⟨⟨e, -⟩, -⟩, -⟩, -⟩) | ⟨⟨⟨⟨e, -⟩, -⟩, -⟩, -⟩
        · cases e
        · cases e
        · exact v_max hd h4 o1 o2 o3 o4 (by rw [catS_eq]; exact h3) (hk _ _ _ _ _ _ h)
        · cases e
        · omega
      · exact h.elim
    · split at h
      · obtain ⟨h3, h4, h⟩ := h
        rcases ok.2 with (((e | ⟨⟨⟨⟨e, -⟩, -⟩, -⟩, -⟩) | ⟨⟨⟨⟨e, -⟩, -⟩, -⟩, -⟩) | ⟨⟨⟨⟨-, o1⟩, o2⟩, o3⟩, o4⟩) | ⟨⟨⟨⟨e, -⟩, -⟩, -⟩, -⟩
        · cases e
        · cases e
        · cases e
        · exact v_min hd h4 o1 o2 o3 o4 (by rw [catS_eq]; exact h3) (hk _ _ _ _ _ _ h)
        · omega
      · exact h.elim
    · next ha hb hc hd2 =>
      obtain ⟨As, s, rfl, h2, h⟩ := popA_spec _ _ _ _ h
      rw [List.append_nil] at h
      obtain ⟨h3, h4, Q, hT, h⟩ := h
      rcases ok.2 with (((e | ⟨⟨⟨⟨e, -⟩, -⟩, -⟩, -⟩) | ⟨⟨⟨⟨e, -⟩, -⟩, -⟩, -⟩) | ⟨⟨⟨⟨e, -⟩, -⟩, -⟩, -⟩) | ⟨⟨⟨⟨-, o1⟩, o2⟩, o3⟩, o4⟩
      · exact absurd e ha
      · exact absurd e hb
      · exact absurd e hc
      · exact absurd e hd2
      · exact v_callS hd (d := X.d - 1) (by omega) o1 o2 o3 (h2.trans o4) (by rw [catS_eq]; exact h3) hT (fun v n' z' f' hq => hk _ _ _ _ _ _ (h v n' z' f' hq))
  · -- .invokespecial idx
    simp only [OkP] at ok
    have hlen := ok.1
    subst hlen
    split at h
    · exact h.elim
    · split at h
      · obtain ⟨h3, h4, h⟩ := h
        rcases ok.2 with (e | ⟨⟨⟨-, o1⟩, o2⟩, o3⟩) | ⟨⟨⟨⟨⟨⟨e, -⟩, -⟩, -⟩, -⟩, -⟩, -⟩
        · cases e
        · exact v_objInit hd h4 o1 o2 o3 (by rw [catS_eq]; exact h3) (hk _ _ _ _ _ _ h)
        · omega
      · exact h.elim
    · next ha hb =>
      obtain ⟨As, s, rfl, h2, h⟩ := popA_spec _ _ _ _ h
      rw [List.append_nil] at h
      split at h
      · obtain ⟨h3, h4, Q, hT, h⟩ := h
        rcases ok.2 with (e | ⟨⟨⟨e, o1⟩, o2⟩, o3⟩) | ⟨⟨⟨⟨⟨⟨-, o1⟩, o2⟩, o3⟩, o4⟩, o5⟩, o6⟩
        · exact absurd e ha
        · exact absurd e hb
        · exact v_callI hd (d := X.d - 1) (by omega) o1 o2 o3 o5 o6 (h2.trans o4) (by rw [catS_eq]; exact h3) hT (fun v n' z' f' hq => hk _ _ _ _ _ _ (h v n' z' f' hq))
      · exact h.elim
  · exact h.elim
def wp (G : Gam) (X : Fx) (cd : Cd) (hd : List Nat) : Nat → Kt
  | 0, pc, ls, st, n, z, f => V G X pc ls st n z f
  | k + 1, pc, ls, st, n, z, f => match fe cd pc with
    | some (ins, _, a, b, c, q) => stp G X (fun pc ls st n z f => if pc ∈ hd then V G X pc ls st n z f else wp G X cd hd k pc ls st n z f) ins a b c q pc ls st n z f
    | none => False
theorem wp_sound {G : Gam} {X : Fx} {cd : Cd} {hd : List Nat} (hc : okC X.i cd) : ∀ (k : Nat) (pc : Nat) (ls st : List Value) (n z : Nat) (f : Mf), wp G X cd hd k pc ls st n z f → V G X pc ls st n z f
  | 0, _, _, _, _, _, _, h => h
  | k + 1, pc, ls, st, n, z, f, h => by
    unfold wp at h
    split at h
    · next hfe =>
      obtain ⟨h1, h2⟩ := hc _ (fe_mem hfe)
      refine stp_sound (fun pc ls st n z f h => ?_) h1 h2 h
      split at h
      · exact h
      · exact wp_sound hc k pc ls st n z f h
    · exact h.elim
