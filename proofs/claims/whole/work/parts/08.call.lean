-- CALLS
/-- what the tables say of a method that is called -/
def Mok (i : Nat) : Prop := Cond.code (mY i) (mC i) (mL i) (mR i) ∈ lw_tbl ∧ Cond.initialized (mY i).cls ∈ lw_tbl ∧ ((mY i).cls ≠ "java/lang/invoke/MethodHandle" ∧ (mY i).cls ≠ "java/lang/invoke/VarHandle" ∧ (parseMethodDescriptor (mY i).desc).map (fun d => d.parameters.length) = some (mN i)) ∧ Jvm.plainName (mY i).cls = true ∧ mL i ≤ 40
section VCall
variable {G : Gam} {X : Fx} {pc n z : Nat} {ls st : List Value} {f : Mf}
theorem Mok.callB {i : Nat} (h : Mok i) {d n z idx : Nat} {R : Room} {s : State} {args : Array Value} {own : String} (hG : Ok G) (hW : G.s.WarmedH s.vm) (hR : R.frames = d + 1 ∧ R.locals = 64 * (d + 1)) (hl : Cond.methodLink own idx (mY i) ∈ lw_tbl) :
    CallB R s args own idx (mY i) (mC i) (mL i) (mR i) [.code (mY i) (mC i) (mL i) (mR i)] (rmm d n z) (CAP - n) (SCAP - z) (mN i) := by
  obtain ⟨h1, h2, h3, h4, h5⟩ := h
  have hc : (Cond.code (mY i) (mC i) (mL i) (mR i)).before args s = true := hG.word h1 rfl hW
  refine callB_of (Ts := [.code (mY i) (mC i) (mL i) (mR i)]) (mN i) (fun w hw => by rw [List.mem_singleton.mp hw]; exact hc) (fun w hw => ⟨hw, good_of_word (by rw [List.mem_singleton.mp hw]; rfl)⟩) rfl rfl rfl (hG.word h2 rfl hW) (hG.word hl rfl hW) h3 ⟨?_, ?_⟩
  · show d + 1 ≤ R.frames
    omega
  · show 8 + (mL i + 11) + 64 * d ≤ R.locals
    omega
theorem va_blind (av : List Value) : FrameBlind (va_Pc (av.map (sh G)) (fun U => G.s.WarmedH U.vm ∧ Rm G n z f U.heap)) := fun _ _ _ _ h => h
/-- behind a call -/
theorem v_came {p : Program} {e : Env} {s : State} {m : MethodId} {args : Array Value} {below : List Frame} {meth : Method} {c : Code} {H : Heap} {lm : Array Slot} {st0 : List Value} {Q : Po} {a : Array Value} (hC : Cx G X p s m meth c) (hR : Rm G n z f H) (hE : Ext X.n X.f n f) (hL : HL G ls lm (mL X.i))
    (hr : va_Run p G.l e (rmm X.d X.n X.z) s m args below meth c H (lall G s) (n - X.n) (z - X.z) (CAP - n) (SCAP - z) (F0 m pc lm st0) (st.map (sh G)) (Qcc G n f Q a) (fun a => G.s.heap.size ≤ a))
    (h : ∀ v n' z' f', Q v n' z' f' → V G X (pc + 3) ls (v.toList ++ st) n' z' f') : W p G.l e (rmm X.d X.n X.z) s m args below meth c H (lall G s) (n - X.n) (z - X.z) (MQX G X below args s) (F0 m pc lm st0) := by
  intro T hT SX
  obtain ⟨v0, s1, t, T', L, h0, X', hL', e1, e2, ⟨v, n', z', f', hv, hq, hR', hE1⟩, stp⟩ := hr T hT SX
  have hv0 : v0 = v.map (sh G) := Outcome.returned.inj hv
  subst hv0
  have hE' := hE.trans hE1
  have hst : (v.map (sh G)).toList ++ st.map (sh G) = (v.toList ++ st).map (sh G) := by cases v <;> rfl
  have K := W.tight (locs := lall G s ++ L) (cells := n - X.n + (CAP - n)) (slots := z - X.z + (SCAP - z)) G hC.2.2.2.2.2.2.2.2.2.1 hR'.1 hE' (h v n' z' f' hq p e s m args below meth c t.heap lm hC hR' hE' hL)
  obtain ⟨t2, a1, b1⟩ := K T' e1 X'
  refine ⟨t2, stp t2 ?_, b1⟩
  show Steps _ _ _ (T'.setTop (F0 m (pc + 3) lm ((v.map (sh G)).toList ++ st.map (sh G)))) _
  rw [hst]
  exact a1
theorem room_call {n0 n z0 z k : Nat} (h0 : n0 ≤ n) (hn : n ≤ CAP) (h1 : z0 ≤ z) (hz : z ≤ SCAP) : n - n0 + (CAP - n) ≤ (rmm k n0 z0).cells ∧ z - z0 + (SCAP - z) ≤ (rmm k n0 z0).slots := by
  show n - n0 + (CAP - n) ≤ CAP - n0 ∧ z - z0 + (SCAP - z) ≤ SCAP - z0
  omega
theorem cat_map (G : Gam) (st : List Value) : ((st.map (sh G)).map fun v => v.category).sum = (st.map fun v => v.category).sum := by
  rw [List.map_map]
  congr 1
  exact List.map_congr_left fun v _ => sh_cat G v
theorem v_callV {i d r ci idx : Nat} {fs As : List Value} {Q : Po} (hd : decode (mC X.i) pc = .ok (.invokevirtual idx, 3)) (hdep : X.d = d + 1) (hM : Mok i) (hl : Cond.methodLink (mY X.i).cls idx (mY i) ∈ lw_tbl) (hin : Cond.instanceMethod (mY i) ∈ lw_tbl) (hs : Cond.selects (clN ci) (mY i) (mY i) ∈ lw_tbl) (hci : ci ≤ 10) (hlen : As.length = mN i) (hcat : (st.map fun v => v.category).sum ≤ 8)
    (hf : f r = cO ci fs) (hT : Tr G d i (.ref r :: As) n z f Q) (h : ∀ v n' z' f', Q v n' z' f' → V G X (pc + 3) ls (v.toList ++ st) n' z' f') : V G X pc ls (As.reverse ++ .ref r :: st) n z f := by
  intro p e s m args below meth c H lm hC hR hE hL
  obtain ⟨hG, hx, hb, hml, hr, hlk, hown, hnm, hW, hR0⟩ := id hC
  obtain ⟨ce, c1, c2, -⟩ := hR.1.cel hG (k := r) (by rw [hf]; intro q; cases q)
  rw [hf] at c2
  have c2 : ce.cls = G.dC ci ∧ ce.vm.isStatics = false := by
    rcases c2 with ⟨c2, c3, -⟩ | ⟨c2, c3, -, -⟩
    · exact ⟨c2, by rw [c3]; rfl⟩
    · exact ⟨c2, c3⟩
  obtain ⟨c2, c3⟩ := c2
  have hcls : s.vm.findClass (clN ci) = some ce.cls := by
    rw [c2]
    rcases Nat.lt_or_ge ci 10 with h10 | h10
    · exact (hG.kn h10 hW).2.1
    · have e1 : ci = 10 := by omega
      subst e1
      rw [hW.alike.findClass]
      exact hG.2.2.2.2.2.2.2.2.2.1
  have es : (As.reverse ++ Value.ref r :: st).map (sh G) = (As.map (sh G)).reverse ++ .ref (ad G r) :: st.map (sh G) := by
    rw [List.map_append, List.map_reverse, List.map_cons, sh_ref]
  rw [es]
  refine v_came (Q := Q) hC hR hE hL (va_runV (C := clN ci) (n := mN i) (As := As.map (sh G)) (rest := st.map (sh G)) (b := ad G r) (Ts := []) ⟨hx, hb, hml, hown, fun w hw => absurd hw List.not_mem_nil⟩ hT ⟨hM.callB hG hW ⟨by show X.d = _; omega, by show 64 * X.d = _; omega⟩ hl, hG.word hin rfl hW, hG.word hs rfl hW⟩ ⟨va_blind _, ⟨ce, c1, c3, hcls⟩, fun U hU hWU => ⟨rfl, State.WarmedH.trans hW hWU, by rw [hU]; exact hR⟩⟩ rfl (by rw [List.length_map]; exact hlen) hL.1 rfl (lv_room (by rw [cat_map]; exact hcat)) hd (room_call hE.1 hR.2.1 (Ext.zle hR0.1 hR.1 hE) hR.2.2)) h
theorem v_callS {i d idx : Nat} {As : List Value} {Q : Po} (hd : decode (mC X.i) pc = .ok (.invokestatic idx, 3)) (hdep : X.d = d + 1) (hM : Mok i) (hl : Cond.methodLink (mY X.i).cls idx (mY i) ∈ lw_tbl) (hin : Cond.static (mY i) ∈ lw_tbl) (hlen : As.length = mN i) (hcat : (st.map fun v => v.category).sum ≤ 8)
    (hT : Tr G d i As n z f Q) (h : ∀ v n' z' f', Q v n' z' f' → V G X (pc + 3) ls (v.toList ++ st) n' z' f') : V G X pc ls (As.reverse ++ st) n z f := by
  intro p e s m args below meth c H lm hC hR hE hL
  obtain ⟨hG, hx, hb, hml, hr, hlk, hown, hnm, hW, hR0⟩ := id hC
  have es : (As.reverse ++ st).map (sh G) = (As.map (sh G)).reverse ++ st.map (sh G) := by
    rw [List.map_append, List.map_reverse]
  rw [es]
  refine v_came (Q := Q) hC hR hE hL (va_runS (n := mN i) (As := As.map (sh G)) (rest := st.map (sh G)) (Ts := []) ⟨hx, hb, hml, hown, fun w hw => absurd hw List.not_mem_nil⟩ hT ⟨hM.callB hG hW ⟨by show X.d = _; omega, by show 64 * X.d = _; omega⟩ hl, hG.word hin rfl hW⟩ ⟨va_blind _, fun U hU hWU => ⟨rfl, State.WarmedH.trans hW hWU, by rw [hU]; exact hR⟩⟩ rfl (by rw [List.length_map]; exact hlen) hL.1 rfl (lv_room (by rw [cat_map]; exact hcat)) hd (room_call hE.1 hR.2.1 (Ext.zle hR0.1 hR.1 hE) hR.2.2)) h
theorem v_callI {i d r idx : Nat} {As : List Value} {Q : Po} (hd : decode (mC X.i) pc = .ok (.invokespecial idx, 3)) (hdep : X.d = d + 1) (hM : Mok i) (hl : Cond.methodLink (mY X.i).cls idx (mY i) ∈ lw_tbl) (hin : Cond.instanceMethod (mY i) ∈ lw_tbl) (hr : mR i = none) (hnm : (mY i).name = "<init>") (hlen : As.length = mN i) (hcat : (st.map fun v => v.category).sum ≤ 8)
    (hT : Tr G d i (.ref r :: As) n z f Q) (h : ∀ v n' z' f', Q v n' z' f' → V G X (pc + 3) ls (v.toList ++ st) n' z' f') : V G X pc ls (As.reverse ++ .ref r :: st) n z f := by
  intro p e s m args below meth c H lm hC hR hE hL
  obtain ⟨hG, hx, hb, hml, hr1, hlk, hown, hnm1, hW, hR0⟩ := id hC
  have es : (As.reverse ++ Value.ref r :: st).map (sh G) = (As.map (sh G)).reverse ++ .ref (ad G r) :: st.map (sh G) := by
    rw [List.map_append, List.map_reverse, List.map_cons, sh_ref]
  rw [es]
  have hB := hM.callB (n := n) (z := z) (d := d) (R := rmm X.d X.n X.z) (args := args) hG hW ⟨by show X.d = _; omega, by show 64 * X.d = _; omega⟩ hl
  have hT' := hT
  unfold Tr at hT'
  rw [hr] at hB hT'
  refine v_came (Q := Q) hC hR hE hL (va_runI (n := mN i) (As := As.map (sh G)) (rest := st.map (sh G)) (b := ad G r) (Ts := []) ⟨hx, hb, hml, hown, fun w hw => absurd hw List.not_mem_nil⟩ hT' ⟨hB, hnm, hG.word hin rfl hW⟩ ⟨fun _ _ _ _ h => h, fun U hU hWU => ⟨rfl, State.WarmedH.trans hW hWU, by rw [hU]; exact hR⟩⟩ rfl (by rw [List.length_map]; exact hlen) hL.1 rfl (lv_room (by rw [cat_map]; exact hcat)) hd (room_call hE.1 hR.2.1 (Ext.zle hR0.1 hR.1 hE) hR.2.2)) h
theorem v_objInit {r idx : Nat} (hd : decode (mC X.i) pc = .ok (.invokespecial idx, 3)) (hdep : 1 ≤ X.d) (hl : Cond.methodLink (mY X.i).cls idx Lib.objectInit ∈ lw_tbl) (hin : Cond.instanceMethod Lib.objectInit ∈ lw_tbl) (hc : Cond.code Lib.objectInit ⟨#[0xb1]⟩ 1 none ∈ lw_tbl) (hcat : (st.map fun v => v.category).sum ≤ 8) (h : V G X (pc + 3) ls st n z f) : V G X pc ls (.ref r :: st) n z f := by
  intro p e s m args below meth c H lm hC hR hE hL
  obtain ⟨hG, hx, hb, hml, hr1, hlk, hown, hnm1, hW, hR0⟩ := id hC
  refine W.objInit hx hb hown (hG.word hl rfl hW) (hG.word hin rfl hW) (hG.word hc rfl hW) rfl (by rw [hml]; exact hL.1) (a := ad G r) (rest := st.map (sh G)) rfl hd hdep ?_ (h p e s m args below meth c H lm hC hR hE hL)
  rw [cat_map]
  show 2 * 0 + _ + 12 ≤ 64 * X.d
  omega
theorem v_copy {r q N M idx : Nat} {x y l : Int32} {a b : Nat → Int32} (hd : decode (mC X.i) pc = .ok (.invokestatic idx, 3)) (hdep : 1 ≤ X.d) (hl : Cond.methodLink (mY X.i).cls idx arraycopyName ∈ lw_tbl) (hnat : Cond.native arraycopyName ∈ lw_tbl) (hsta : Cond.static arraycopyName ∈ lw_tbl) (hini : Cond.initialized "java/lang/System" ∈ lw_tbl) (hcat : (st.map fun v => v.category).sum ≤ 8) (hr0 : r < OLD) (hq : f q = cI N a) (hr : f r = cI M b)
    (h1 : ¬ x < 0) (h2 : ¬ y < 0) (h3 : ¬ l < 0) (h4 : x.toNatClampNeg + l.toNatClampNeg ≤ N) (h5 : y.toNatClampNeg + l.toNatClampNeg ≤ M) (h : V G X (pc + 3) ls st n z (upC f r (cI M (va_cpy a b x.toNatClampNeg y.toNatClampNeg l.toNatClampNeg)))) : V G X pc ls (.int l :: .int y :: .ref r :: .int x :: .ref q :: st) n z f := by
  intro p e s m args below meth c H lm hC hR hE hL
  obtain ⟨hG, hx, hb, hml, hr1, hlk, hown, hnm1, hW, hR0⟩ := id hC
  obtain ⟨ce, c1, c2, hrn, hsz⟩ := hR.1.celN hG (k := r) hr0 (by rw [hr]; intro q; cases q)
  rw [hr] at c2
  have c2 : ce = _ := c2
  subst c2
  obtain ⟨cq, d1, d2, -⟩ := hR.1.cel hG (k := q) (by rw [hq]; intro q; cases q)
  rw [hq] at d2
  have hA := (hG.arr hW (t := 0) (by omega)).1
  have d3 : (∀ k, cq.vm ≠ .statics k) ∧ cq.vm ≠ .unknown ∧ (∃ k0, s.vm.classes[cq.cls]? = some k0 ∧ ∃ cm0, k0.kind = .array cm0 .int) ∧ N ≤ cq.slots.size ∧ ∀ j, j < N → cq.slots[j]? = some (.int (a j)) := by
    rcases d2 with d2 | ⟨d2, d3, d4, d5, d6⟩
    · have d2 : cq = _ := d2
      subst d2
      obtain ⟨-, k0, hk0, cm0, hkk0⟩ := hA N (fun j => .int (a j))
      exact ⟨(fun _ h => by cases h), (fun h => by cases h), ⟨k0, hk0, cm0, hkk0⟩, (by rw [arrV_size]; omega), fun j hj => arrV_read _ _ hj⟩
    · obtain ⟨q1, q2⟩ := State.isArrayOf_alike (T := s) hW.alike d2
      exact ⟨q1, d3, q2, d4, d6⟩
  obtain ⟨p1, p2, ⟨k0, hk0, cm0, hkk0⟩, p4, p5⟩ := d3
  have nn : ∀ z : Int32, ¬ z < 0 → z.toInt = (z.toNatClampNeg : Int) := by
    intro z hz
    have hz0 : (0 : Int) ≤ z.toInt := by
      have := Int32.not_lt.mp hz
      simpa using Int32.le_iff_toInt_le.mp this
    show z.toInt = ((z.toInt.toNat : Nat) : Int)
    omega
  obtain ⟨-, k1, hk1, cm1, hkk1⟩ := hA M (fun j => .int (b j))
  intro T hT SX
  obtain ⟨vm', X', step⟩ := SX.arraycopy hx hown (hG.word hl rfl hW) (hG.word hnat rfl hW) (hG.word hsta rfl hW) (hG.word hini rfl hW) (src := ad G q) (dst := ad G r) (cs := cq) (cd := arrV (G.aC 0) M (fun j => .int (b j))) (srcPos := x) (destPos := y) (n := l) (by rw [hT]; exact d1) (by rw [hT]; exact c1)
    p1 (fun _ h => by cases h) p2 (fun h => by cases h) hk0 hk1 hkk0 hkk1 (by simp [refKind, aT]) h1 h2 h3
    (by rw [nn x h1, nn l h3]; omega)
    (by rw [nn y h2, nn l h3, arrV_size]; omega)
    (fun vm₁ _ i hi => by
      have e : cq.slots.getD (x.toNatClampNeg + i) .null = .int (a (x.toNatClampNeg + i)) := by
        rw [Array.getD_eq_getD_getElem?, p5 _ (by omega)]
        rfl
      refine ⟨?_, ?_⟩
      · rw [e]; rfl
      · rw [e]; exact trivial)
    (g := F0 m pc lm ((Value.int l :: .int y :: .ref r :: .int x :: .ref q :: st).map (sh G))) rfl (by rw [hml]; exact hL.1) (rest := st.map (sh G)) rfl (by rw [hb]; exact hd) hdep (by
      show 2 * 0 + _ + _ ≤ 64 * X.d
      rw [cat_map]
      have : nativeFrameWords "java/lang/System" "arraycopy" 5 + 11 ≤ 56 := by decide
      omega)
  have e1 : copied cq (arrV (G.aC 0) M (fun j => .int (b j))) x y l = arrV (G.aC 0) M (fun j => .int (va_cpy a b x.toNatClampNeg y.toNatClampNeg l.toNatClampNeg j)) := va_copiedX (fun z => .int z) cq (G.aC 0) a b p5 h4
  rw [e1] at X' step
  have hlt : ad G r < H.size := (Array.getElem?_eq_some_iff.mp c1).1
  have hheap : ((T.setVm vm').setCell (ad G r) (arrV (G.aC 0) M (fun j => .int (va_cpy a b x.toNatClampNeg y.toNatClampNeg l.toNatClampNeg j)))).heap = H.setIfInBounds (ad G r) (arrV (G.aC 0) M (fun j => .int (va_cpy a b x.toNatClampNeg y.toNatClampNeg l.toNatClampNeg j))) := by rw [← hT]; rfl
  have K := v_stored (ls := ls) (L := List.map (fun (q : Value × Nat) => (⟨ad G r, y.toNatClampNeg + q.snd⟩ : Loc)) (cq.stretch x.toNatClampNeg l.toNatClampNeg).zipIdx) (cel := cI M (va_cpy a b x.toNatClampNeg y.toNatClampNeg l.toNatClampNeg)) (ce := arrV (G.aC 0) M (fun j => .int (va_cpy a b x.toNatClampNeg y.toNatClampNeg l.toNatClampNeg j))) (H' := H.setIfInBounds (ad G r) (arrV (G.aC 0) M (fun j => .int (va_cpy a b x.toNatClampNeg y.toNatClampNeg l.toNatClampNeg j)))) (e := e) (args := args) (below := below) hC hR hE hL hr0 hrn (by rw [hr]; rfl) rfl (by rw [arrV_size]; rfl) (by simp [Array.getElem?_setIfInBounds, hlt]) (by simp) (fun q hq => by simp [Array.getElem?_setIfInBounds, Ne.symm hq]) h
  obtain ⟨t, a1, b1⟩ := K _ hheap X'
  exact ⟨t, step t a1, b1⟩
theorem v_max {idx : Nat} {x y : Int32} (hd : decode (mC X.i) pc = .ok (.invokestatic idx, 3)) (hdep : 1 ≤ X.d) (hl : Cond.methodLink (mY X.i).cls idx Lib.Math.max.name ∈ lw_tbl) (hsta : Cond.static Lib.Math.max.name ∈ lw_tbl) (hini : Cond.initialized "java/lang/Math" ∈ lw_tbl) (hc : Cond.code Lib.Math.max.name Lib.Math.max.code 2 (some .int) ∈ lw_tbl) (hcat : (st.map fun v => v.category).sum ≤ 8) (h : V G X (pc + 3) ls (.int (if x < y then y else x) :: st) n z f) : V G X pc ls (.int y :: .int x :: st) n z f := by
  intro p e s m args below meth c H lm hC hR hE hL
  obtain ⟨hG, hx, hb, hml, hr1, hlk, hown, hnm1, hW, hR0⟩ := id hC
  refine va_mmax hx hb (hml.trans hL.1.symm) hown (hG.word hl rfl hW) (hG.word hsta rfl hW) (hG.word hini rfl hW) (hG.word hc rfl hW) hdep ?_ ?_ ?_ hd (h p e s m args below meth c H lm hC hR hE hL)
  · rw [cat_map]
    show _ + 13 ≤ 64 * X.d
    omega
  · show n - X.n ≤ CAP - X.n
    have := hR.2.1
    omega
  · show z - X.z ≤ SCAP - X.z
    have := hR.2.2
    omega
theorem v_min {idx : Nat} {x y : Int32} (hd : decode (mC X.i) pc = .ok (.invokestatic idx, 3)) (hdep : 1 ≤ X.d) (hl : Cond.methodLink (mY X.i).cls idx Lib.Math.min.name ∈ lw_tbl) (hsta : Cond.static Lib.Math.min.name ∈ lw_tbl) (hini : Cond.initialized "java/lang/Math" ∈ lw_tbl) (hc : Cond.code Lib.Math.min.name Lib.Math.min.code 2 (some .int) ∈ lw_tbl) (hcat : (st.map fun v => v.category).sum ≤ 8) (h : V G X (pc + 3) ls (.int (if y < x then y else x) :: st) n z f) : V G X pc ls (.int y :: .int x :: st) n z f := by
  intro p e s m args below meth c H lm hC hR hE hL
  obtain ⟨hG, hx, hb, hml, hr1, hlk, hown, hnm1, hW, hR0⟩ := id hC
  refine va_mmin hx hb (hml.trans hL.1.symm) hown (hG.word hl rfl hW) (hG.word hsta rfl hW) (hG.word hini rfl hW) (hG.word hc rfl hW) hdep ?_ ?_ ?_ hd (h p e s m args below meth c H lm hC hR hE hL)
  · rw [cat_map]
    show _ + 13 ≤ 64 * X.d
    omega
  · show n - X.n ≤ CAP - X.n
    have := hR.2.1
    omega
  · show z - X.z ≤ SCAP - X.z
    have := hR.2.2
    omega
/-- the arguments in their places -/
def entL : List Value → List Value
  | [] => []
  | v :: vs => match v.category with
    | 2 => v :: dead :: entL vs
    | _ => v :: entL vs
theorem entL_lg (G : Gam) : ∀ (av : List Value) (k : Nat) (v : Value), (entL av)[k]? = some v → v ≠ dead → (lg_sl (av.map (sh G)))[k]? = some (.val (sh G v))
  | [], k, v, h, _ => by simp [entL] at h
  | a :: av, k, v, h, hd => by
    have hc := sh_cat G a
    unfold entL at h
    simp only [lg_sl, List.map_cons, List.flatMap_cons, hc]
    by_cases h2 : a.category = 2
    · simp only [h2] at h
      simp only [h2, if_true]
      match k with
      | 0 => simp at h; subst h; rfl
      | 1 => simp at h; exact absurd h.symm hd
      | k + 2 => exact entL_lg G av k v (by simpa using h) hd
    · have h1 : a.category = 1 := (lv_cat a).resolve_right h2
      simp only [h1] at h
      rw [if_neg h2]
      match k with
      | 0 => simp at h; subst h; rfl
      | k + 1 => exact entL_lg G av k v (by simpa using h) hd
theorem entL_len (G : Gam) : ∀ (av : List Value), (lg_sl (av.map (sh G))).length = (entL av).length
  | [] => rfl
  | a :: av => by
    have hc := sh_cat G a
    unfold entL
    simp only [lg_sl, List.map_cons, List.flatMap_cons, hc]
    by_cases h2 : a.category = 2
    · simp only [h2, if_true]
      show _ = (entL av).length + 1 + 1
      rw [← entL_len G av]
      simp [lg_sl]
    · have h1 : a.category = 1 := (lv_cat a).resolve_right h2
      rw [if_neg h2]
      simp only [h1]
      show _ = (entL av).length + 1
      rw [← entL_len G av]
      simp [lg_sl]
theorem Tr.of {G : Gam} (hG : Ok G) {d i : Nat} {av : List Value} {Q : Po} (hM : Mok i) (hlen : (entL av).length ≤ mL i) (h : V G (i, d, n, z, f, Q) 0 (entL av ++ List.replicate (mL i - (entL av).length) dead) [] n z f) : Tr G d i av n z f Q := by
  refine Met.ofW (cc := mC i) (maxL := mL i) (ret := mR i) hM.2.2.2.1 rfl ?_
  intro p e s m args below meth c s₁ B hml hv
  obtain ⟨rfl, hW, hR⟩ := hv
  have hown : s.vm.findClass (mY i).cls = some m.cls := findClass_of_methodNamed B.named
  have hnm : meth.name = (mY i).name := (name_of_methodNamed B.named B.method).1
  have hl := lv_entry (av.map (sh G)) (n := mL i) (by rw [entL_len]; exact hlen)
  rw [lg_entry_eq]
  have K := h p e s m (av.map (sh G)).toArray below meth c s.heap ((lg_sl (av.map (sh G)) ++ List.replicate (mL i - (lg_sl (av.map (sh G))).length) Slot.unset).toArray) ⟨hG, B.exec, B.bytes, hml, B.returns, B.notSynchronized, hown, hnm, hW, hR⟩ hR (Ext.refl n f) ⟨hl.1, by rw [List.length_append, List.length_replicate]; show _ + (mL i - _) = mL i; omega, hl.2.1, fun k v hk hd => ?_⟩
  · refine W.tight (locs := []) (cells := 0) (slots := 0) G hR.1 hR.1 (Ext.refl n f) ?_
    exact K
  · rw [List.getElem?_toArray]
    rcases Nat.lt_or_ge k (entL av).length with q | q
    · rw [List.getElem?_append_left q] at hk
      rw [List.getElem?_append_left (by rw [entL_len]; exact q)]
      exact entL_lg G av k v hk hd
    · rw [List.getElem?_append_right q] at hk
      have := List.mem_of_getElem? hk
      exact absurd (List.eq_of_mem_replicate this) hd
theorem Tr.post {G : Gam} {d i : Nat} {av : List Value} {Q Q' : Po} (h : Tr G d i av n z f Q) (hq : ∀ v n' z' f', Q v n' z' f' → Q' v n' z' f') : Tr G d i av n z f Q' := by
  intro p e h1 h2 h3 s m args below h4 h5 h6 h7
  obtain ⟨k, o, a1, a2, a3, ⟨v, n', z', f', b1, b2, b3⟩, a5⟩ := h p e h1 h2 h3 s m args below h4 h5 h6 h7
  exact ⟨k, o, a1, a2, a3, ⟨v, n', z', f', b1, hq _ _ _ _ b2, b3⟩, a5⟩
end VCall
