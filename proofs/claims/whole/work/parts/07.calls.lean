-- MAKINGS, ENDS, CALLS
theorem arrayOver_moved {a b : Array Value} {u U : State} (hW : u.WarmedH U.vm) (h : (Cond.arrayOver (.array .byte)).before a u = true) : (Cond.arrayOver (.array .byte)).before b U = true := by
  first
    | exact Cond.before_shiftedFace (args := a) (State.Shifted.of_warmed hW) _ rfl h
    | (have hvm : u.vm.Alike U.vm := hW.alike
       simp only [Cond.before, Cond.holds, Cond.value, beq_iff_eq] at h ⊢
       rw [hvm.findClass]
       cases hc : u.vm.findClass (FieldType.array .byte).toString with
       | none => rw [hc] at h; simp at h
       | some comp =>
         rw [hc] at h
         simp only [Option.bind_some] at h ⊢
         rw [hvm.findIdx?_eq _ (fun _ => rfl)]
         obtain ⟨c, hi, hh⟩ := Option.bind_eq_some_iff.mp h
         obtain ⟨k, hk, hkk⟩ := Option.map_eq_some_iff.mp hh
         obtain ⟨k', hk', he⟩ := hvm.2.2 _ _ hk
         rw [hi]
         simp only [Option.bind_some, hk', Option.map_some]
         rw [he]
         simpa [hvm.findClass] using hkk)
theorem arrV_dflt (G : Gam) {t N : Nat} (ht : t < 3) : CelAt G (.inl (t, N, fun _ => 0)) (arrV (G.aC t) N (fun _ => defaultValue (aT t))) := by
  show arrV _ _ _ = arrV _ _ _
  congr 1
  funext j
  match t, ht with
  | 0, _ => rfl
  | 1, _ => rfl
  | 2, _ => rfl
/-- the fields of a new object -/
def new0 (ci : Nat) : List Value := (List.range (clK ci)).map fun k => defaultValue (clY ci k)
theorem sh_dflt (G : Gam) (ty : FieldType) : sh G (defaultValue ty) = defaultValue ty := by cases ty <;> rfl
section VMake
variable {G : Gam} {X : Fx} {pc n z : Nat} {ls st : List Value} {f : Mf}
theorem v_aastore {r q N M : Nat} {x : Int32} {g : Nat → Option Nat} {b : Nat → Int32} (hd : decode (mC X.i) pc = .ok (.aastore, 1)) (hr0 : r < OLD) (hf : f r = cQ N g) (hi : vp_in x N) (hq0 : q < OLD) (hq : f q = cB M b) (h : V G X (pc + 1) ls st n z (upC f r (cQ N (va_up g x.toNatClampNeg (some q))))) : V G X pc ls (.ref q :: .int x :: .ref r :: st) n z f := by
  intro p e s m args below meth c H lm hC hR hE hL
  obtain ⟨hG, hx, hb, hml, hr, hlk, hown, hnm, hW, hR0⟩ := id hC
  obtain ⟨ce, c1, c2, hrn, hsz⟩ := hR.1.celN hG (k := r) hr0 (by rw [hf]; intro q; cases q)
  rw [hf] at c2
  have c2 : ce = _ := c2
  subst c2
  obtain ⟨cq, d1, d2, -, -⟩ := hR.1.celN hG (k := q) hq0 (by rw [hq]; intro q; cases q)
  rw [hq] at d2
  have d2 : cq = _ := d2
  subst d2
  obtain ⟨-, -, -, -, -, -, -, -, -, -, kA, hkA, hkind⟩ := hG
  obtain ⟨kA', hkA', heA⟩ := hW.alike.2.2 _ _ hkA
  have hB := ((hC.1).arr hW (t := 1) (by omega)).1 0 (fun _ => .null)
  obtain ⟨-, kB, hkB, -⟩ := hB
  have hin : ¬ x < 0 ∧ x.toNatClampNeg < N := ⟨fun q => hi (Or.inl q), Nat.not_le.mp fun q => hi (Or.inr q)⟩
  refine W.aast (t := .array .byte) (k := kA') (kv := kB) (kcomp := kB) (comp := G.aC 1) hx hb c1 (fun _ q => by cases q) (fun q => by cases q) hkA' (by rw [heA]; exact hkind) rfl hkB (by rw [arrV_size]; exact hin) d1 (fun _ q => by cases q) hkB (va_asg _ _) rfl rfl hd fun H' e1 e2 e3 => ?_
  refine v_stored (ls := ls) (cel := cQ N (va_up g x.toNatClampNeg (some q))) hC hR hE hL hr0 hrn (by rw [hf]; rfl) ?_ (by rw [k2_slotsz]; exact hsz.trans (by rw [hf]; rfl)) e1 e2 e3 h
  show _ = arrV _ _ _
  rw [arrV_store]
  congr 1
  funext j
  by_cases q : j = x.toNatClampNeg <;> simp [updV, va_up, q, va_rf, sh]
theorem v_made {p : Program} {e : Env} {s : State} {m : MethodId} {args : Array Value} {below : List Frame} {meth : Method} {c : Code} {H : Heap} {lm : Array Slot} {L : List Loc} {cel : Cel} {ce : Cell} {cells slots : Nat} (hC : Cx G X p s m meth c) (hR : Rm G n z f H) (hE : Ext X.n X.f n f) (hL : HL G ls lm (mL X.i)) (hn : n + 1 ≤ CAP) (hz : z + csz cel ≤ SCAP) (hat : CelAt G cel ce) (hsz : ce.slots.size = csz cel)
    {H' : Heap} (e1 : H'[H.size]? = some ce) (e2 : H'.size = H.size + 1) (e3 : ∀ q, q < H.size → H'[q]? = H[q]?) (h : V G X pc ls (.ref n :: st) (n + 1) (z + csz cel) (upC f n cel)) : W p G.l e (rmm X.d X.n X.z) s m args below meth c H' L cells slots (MQX G X below args s) (F0 m pc lm (.ref H.size :: st.map (sh G))) := by
  have hs : H.size = G.s.heap.size + n := hR.1.1
  have hnO : n + 1 < OLD := Nat.lt_of_le_of_lt hn (by decide)
  have hR' : Rm G (n + 1) (z + csz cel) (upC f n cel) H' := ⟨hR.1.push hnO (by rw [← hs]; exact e1) hat hsz e2 e3, hn, hz⟩
  have hE' : Ext X.n X.f (n + 1) (upC f n cel) := hE.push
  have e4 : Value.ref H.size :: st.map (sh G) = (Value.ref n :: st).map (sh G) := by
    rw [List.map_cons, sh_ref, ad, if_pos (by omega), hs]
  rw [e4]
  exact W.tight G hC.2.2.2.2.2.2.2.2.2.1 hR'.1 hE' (h p e s m args below meth c H' lm hC hR' hE' hL)
theorem room_cells {n0 n z0 z k : Nat} (h0 : n0 ≤ n) (hn : n + 1 ≤ CAP) : n - n0 + 1 ≤ (rmm k n0 z0).cells := by
  show n - n0 + 1 ≤ CAP - n0
  omega
theorem room_slots {n0 z0 z k w : Nat} (h0 : z0 ≤ z) (hz : z + w ≤ SCAP) : z - z0 + w ≤ (rmm k n0 z0).slots := by
  show z - z0 + w ≤ SCAP - z0
  omega
theorem Ext.zle {G : Gam} {n0 z0 n z : Nat} {f0 f : Mf} {H0 H : Heap} (h0 : Rl G n0 z0 f0 H0) (h : Rl G n z f H) (hE : Ext n0 f0 n f) : z0 ≤ z := by
  have e2 := msz_le (f := f) (f0 := f0) hE.2 (n - n0)
  rw [show n0 + (n - n0) = n by have := hE.1; omega] at e2
  rw [h0.2.2.1, h.2.2.1]
  omega
theorem v_new {ci idx : Nat} (hd : decode (mC X.i) pc = .ok (.new idx, 3)) (hci : ci < 10) (hw : Cond.classLink (mY X.i).cls idx (clN ci) ∈ lw_tbl) (hw2 : Cond.instantiable (clN ci) (clK ci) ∈ lw_tbl) (hw3 : Cond.initialized (clN ci) ∈ lw_tbl) (hn : n + 1 ≤ CAP) (hz : z + clK ci ≤ SCAP) (h : V G X (pc + 3) ls (.ref n :: st) (n + 1) (z + clK ci) (upC f n (cO ci (new0 ci)))) : V G X pc ls st n z f := by
  intro p e s m args below meth c H lm hC hR hE hL
  obtain ⟨hG, hx, hb, hml, hr, hlk, hown, hnm, hW, hR0⟩ := id hC
  have hKn := hG.kn hci hW
  have hins : (Cond.instantiable (clN ci) (clK ci)).before args s = true := hG.word hw2 rfl hW
  refine W.newcK hx hb hown (hG.word hw rfl hW) hins (hG.word hw3 rfl hW) rfl hd (room_cells (z := z) hE.1 hn) (room_slots (Ext.zle hR0.1 hR.1 hE) hz) hKn.2.1 rfl fun H1 kC hkC e1 z1 o1 => ?_
  have hOB := u_born (clY ci) (hG.lays hci (a := args) hW) (fun _ h => h) hKn hkC e1 (clTy ci hci)
  obtain ⟨ce, g1, g2, g3, g4⟩ := hOB
  cases e1.symm.trans g1
  obtain ⟨cC2, kC2, i1, i2, -, -, -, i4⟩ := Cond.instantiable_spec hins
  cases hKn.2.1.symm.trans i1
  cases hkC.symm.trans i2
  have hsz : (blank (G.dC ci) kC).slots.size = clK ci := by simp [blank, i4]
  refine v_made (cel := cO ci (new0 ci)) hC hR hE hL hn hz ⟨g2, g3, fun k hk => ?_⟩ hsz e1 z1 o1 h
  rw [g4 k hk]
  have : vp_V (new0 ci) k = defaultValue (clY ci k) := by
    simp [vp_V, new0, hk]
  rw [this, sh_dflt]
theorem v_newarray {t : Nat} {at_ : ArrayType} {x : Int32} (hd : decode (mC X.i) pc = .ok (.newarray at_, 2)) (ht : t < 3) (hty : newarray.typeOf at_ = aT t) (hw : Cond.arrayClass (aT t) ∈ lw_tbl) (hx0 : ¬ x < 0) (hxn : x.toNatClampNeg ≤ 100000) (hn : n + 1 ≤ CAP) (hz : z + x.toNatClampNeg ≤ SCAP) (h : V G X (pc + 2) ls (.ref n :: st) (n + 1) (z + x.toNatClampNeg) (upC f n (.inl (t, x.toNatClampNeg, fun _ => 0)))) : V G X pc ls (.int x :: st) n z f := by
  intro p e s m args below meth c H lm hC hR hE hL
  obtain ⟨hG, hx, hb, hml, hr, hlk, hown, hnm, hW, hR0⟩ := id hC
  have hcb : componentBytes (newarray.typeOf at_) ≤ 8 := by cases at_ <;> decide
  have hbytes : x.toNatClampNeg * componentBytes (newarray.typeOf at_) ≤ 536870912 := Nat.le_trans (Nat.mul_le_mul hxn hcb) (by decide)
  refine va_newaK hx hb (by rw [hty]; exact hG.word hw rfl hW) rfl hd rfl hx0 rfl hbytes (room_cells (z := z) hE.1 hn) (room_slots (Ext.zle hR0.1 hR.1 hE) hz) rfl fun H1 cA e1 z1 o1 hA hNm => ?_
  rw [hty] at e1 hNm
  have hc : cA = G.aC t := Option.some.inj (hNm.symm.trans (hG.arr hW (by omega)).2)
  subst hc
  exact v_made (cel := .inl (t, x.toNatClampNeg, fun _ => 0)) hC hR hE hL hn hz (arrV_dflt G ht) (by rw [arrV_size]; rfl) e1 z1 o1 h
theorem v_anewarray {idx : Nat} {x : Int32} (hd : decode (mC X.i) pc = .ok (.anewarray idx, 3)) (hw : Cond.classLink (mY X.i).cls idx (FieldType.array .byte).toString ∈ lw_tbl) (hw2 : Cond.arrayOver (.array .byte) ∈ lw_tbl) (hx0 : ¬ x < 0) (hxn : x.toNatClampNeg ≤ 100000) (hn : n + 1 ≤ CAP) (hz : z + x.toNatClampNeg ≤ SCAP) (h : V G X (pc + 3) ls (.ref n :: st) (n + 1) (z + x.toNatClampNeg) (upC f n (cQ x.toNatClampNeg (fun _ => none)))) : V G X pc ls (.int x :: st) n z f := by
  intro p e s m args below meth c H lm hC hR hE hL
  obtain ⟨hG, hx, hb, hml, hr, hlk, hown, hnm, hW, hR0⟩ := id hC
  refine W.anewA (t := .byte) hx hb hown (hG.word hw rfl hW) (arrayOver_moved hW (hG.1 _ hw2)) rfl hd rfl hx0 (by omega) (room_cells (z := z) hE.1 hn) (room_slots (Ext.zle hR0.1 hR.1 hE) hz) fun cA kA comp h1 h2 h3 h4 => ?_
  have hc : cA = G.aC 3 := Option.some.inj (h1.symm.trans (hG.arr hW (t := 3) (by omega)).2)
  subst hc
  refine v_made (cel := cQ x.toNatClampNeg (fun _ => none)) (ce := arrV (G.aC 3) x.toNatClampNeg (fun _ => .null)) hC hR hE hL hn hz rfl (by rw [arrV_size]; rfl) ?_ (by simp) (fun q hq => by rw [Array.getElem?_push, if_neg (Nat.ne_of_lt hq)]) h
  rw [Array.getElem?_push, if_pos rfl]
  congr 1
  simp only [arrV]
  congr 1
  apply Array.ext
  · simp
  · intro i h1 h2
    simp
-- ends
theorem V.ende {p : Program} {e : Env} {s : State} {m : MethodId} {args : Array Value} {below : List Frame} {meth : Method} {c : Code} {H : Heap} {locs : List Loc} {g : JFrame} (hR : Rm G n z f H) (hE : Ext X.n X.f n f) (hC : Cx G X p s m meth c)
    (k : W p G.l e (rmm X.d X.n X.z) s m args below meth c H locs (CAP - X.n) (SCAP - X.z) (MQX G X below args s) g) : W p G.l e (rmm X.d X.n X.z) s m args below meth c H locs (n - X.n) (z - X.z) (MQX G X below args s) g :=
  W.widen (by have := hR.2.1; omega) (by have := hR.2.2; omega) k
theorem v_return (hd : decode (mC X.i) pc = .ok (.return_, 1)) (hr : mR X.i = none) (h : X.Q none n z f) : V G X pc ls [] n z f := by
  intro p e s m args below meth c H lm hC hR hE hL
  obtain ⟨hG, hx, hb, hml, hrt, hlk, hown, hnm, hW, hR0⟩ := id hC
  exact V.ende hR hE hC (W.vret hx hb (hrt.trans hr) (fun t ht hwt => ⟨none, n, z, f, rfl, h, by rw [ht]; exact hR, hE⟩) (fun q hq => lall_base q hq) hd hlk)
def retC (ty : Option FieldType) (x : Int32) : Prop := match ty with
  | some .int => True
  | some .boolean => x = 0 ∨ x = 1
  | some .byte => x.toInt8.toInt32 = x
  | some .char => x.toUInt32.toUInt16.toUInt32.toInt32 = x
  | _ => False
theorem retC_spec {ty : Option FieldType} {x : Int32} (h : retC ty x) : ∃ t, ty = some t ∧ narrow t (.int x) = .int x := by
  unfold retC at h
  split at h
  · exact ⟨_, rfl, rfl⟩
  · exact ⟨_, rfl, by rcases h with rfl | rfl <;> rfl⟩
  · exact ⟨_, rfl, by show Value.int _ = _; rw [h]⟩
  · exact ⟨_, rfl, by show Value.int _ = _; rw [h]⟩
  · exact absurd h id
theorem v_ireturn {x : Int32} (hd : decode (mC X.i) pc = .ok (.ireturn, 1)) (hr : retC (mR X.i) x) (h : X.Q (some (.int x)) n z f) : V G X pc ls [.int x] n z f := by
  intro p e s m args below meth c H lm hC hR hE hL
  obtain ⟨hG, hx, hb, hml, hrt, hlk, hown, hnm, hW, hR0⟩ := id hC
  obtain ⟨t, h1, h2⟩ := retC_spec hr
  exact V.ende hR hE hC (W.zret hx hb (hrt.trans h1) h2 (fun t ht hwt => ⟨some (.int x), n, z, f, rfl, h, by rw [ht]; exact hR, hE⟩) (fun q hq => lall_base q hq) hd hlk)
theorem v_lreturn {x : Int64} (hd : decode (mC X.i) pc = .ok (.lreturn, 1)) (hr : mR X.i = some .long) (h : X.Q (some (.long x)) n z f) : V G X pc ls [.long x] n z f := by
  intro p e s m args below meth c H lm hC hR hE hL
  obtain ⟨hG, hx, hb, hml, hrt, hlk, hown, hnm, hW, hR0⟩ := id hC
  exact V.ende hR hE hC (W.lret hx hb (hrt.trans hr) (fun t ht hwt => ⟨some (.long x), n, z, f, rfl, h, by rw [ht]; exact hR, hE⟩) (fun q hq => lall_base q hq) hd hlk)
def isRefT (ty : Option FieldType) : Bool := match ty with
  | some (.object _) => true
  | some (.array _) => true
  | _ => false
theorem v_areturn {v : Value} (hd : decode (mC X.i) pc = .ok (.areturn, 1)) (hr : isRefT (mR X.i) = true) (hv : v = .null ∨ ∃ a, v = .ref a) (h : X.Q (some v) n z f) : V G X pc ls [v] n z f := by
  intro p e s m args below meth c H lm hC hR hE hL
  obtain ⟨hG, hx, hb, hml, hrt, hlk, hown, hnm, hW, hR0⟩ := id hC
  obtain ⟨t, h1, h2⟩ : ∃ t, mR X.i = some t ∧ ((∃ n, t = .object n) ∨ ∃ t', t = .array t') := by
    unfold isRefT at hr
    split at hr
    · next q => exact ⟨_, q, Or.inl ⟨_, rfl⟩⟩
    · next q => exact ⟨_, q, Or.inr ⟨_, rfl⟩⟩
    · cases hr
  have hv' : sh G v = .null ∨ ∃ a, sh G v = .ref a := by
    rcases hv with rfl | ⟨a, rfl⟩
    · exact Or.inl rfl
    · exact Or.inr ⟨_, rfl⟩
  exact V.ende hR hE hC (W.aret hx hb (hrt.trans h1) h2 hv' (fun t ht hwt => ⟨some v, n, z, f, rfl, h, by rw [ht]; exact hR, hE⟩) (fun q hq => lall_base q hq) hd hlk)
end VMake
