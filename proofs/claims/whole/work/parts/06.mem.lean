-- FIELDS, ARRAYS, MAKINGS
theorem clIn : ∀ ci, ci < 10 → ∀ w ∈ u_ws (clN ci) (clT ci) (clK ci), w ∈ lw_tbl
  | 0, _ => inX0 | 1, _ => inX1 | 2, _ => inX2 | 3, _ => inX3 | 4, _ => inX4 | 5, _ => inX5 | 6, _ => inX6 | 7, _ => inX7 | 8, _ => inX8 | 9, _ => inX9
  | n + 10, h => absurd h (by omega)
theorem clTy : ∀ ci, ci < 10 → ∀ k, k < clK ci → parseFieldDescriptor (clT ci k).2.2.1 = some (clY ci k)
  | 0, _ => tyX0_ok | 1, _ => tyX1_ok | 2, _ => tyX2_ok | 3, _ => tyX3_ok | 4, _ => tyX4_ok | 5, _ => tyX5_ok | 6, _ => tyX6_ok | 7, _ => tyX7_ok | 8, _ => tyX8_ok | 9, _ => tyX9_ok
  | n + 10, h => absurd h (by omega)
theorem clNm : ∀ ci, ci < 10 → ∀ a, a < clK ci → ∀ b, b < clK ci → a ≠ b → (clT ci a).2.1 ≠ (clT ci b).2.1
  | 0, _ => nmX0 | 1, _ => nmX1 | 2, _ => nmX2 | 3, _ => nmX3 | 4, _ => nmX4 | 5, _ => nmX5 | 6, _ => nmX6 | 7, _ => nmX7 | 8, _ => nmX8 | 9, _ => nmX9
  | n + 10, h => absurd h (by omega)
theorem u_good {C : String} {T : u_T} {N : Nat} {w : Cond} (h : w ∈ u_ws C T N) : goodWord w = true := by
  obtain ⟨k, -, rfl⟩ := List.mem_map.mp h
  unfold u_lay
  split <;> rfl
theorem Ok.lays {G : Gam} (hG : Ok G) {ci : Nat} (hci : ci < 10) {a : Array Value} {s : State} (hW : G.s.WarmedH s.vm) : ∀ w ∈ u_ws (clN ci) (clT ci) (clK ci), w.before a s = true :=
  fun w hw => hG.word (clIn ci hci w hw) (u_good hw) hW
theorem Ok.kn {G : Gam} (hG : Ok G) {ci : Nat} (hci : ci < 10) {s : State} (hW : G.s.WarmedH s.vm) : u_Kn s (clN ci) (clT ci) (clK ci) (G.dC ci) (G.dI ci) := u_Kn_moved hW.alike (hG.2.1 ci hci)
theorem Ok.fld {G : Gam} (hG : Ok G) {s : State} (hW : G.s.WarmedH s.vm) {ci k : Nat} (hci : ci ≤ 10) (hk : k < clK ci) : ∃ (cf : ClassId) (kf : Class) (fi : Nat) (fd : Field), s.fieldFound? (clT ci k).1 (clT ci k).2.1 (clT ci k).2.2.1 = some (cf, kf, fi, fd) ∧ fd.isStatic = false ∧ fd.slot = G.dI ci k := by
  rcases Nat.lt_or_ge ci 10 with h10 | h10
  · obtain ⟨hS, hfc, kC, hkC, -⟩ := hG.kn h10 hW
    obtain ⟨cf, kf, fi, fd, hi, hs⟩ := hS k hk
    exact ⟨cf, kf, fi, fd, hi, (u_facts (args := #[]) hfc hkC (u_lays (hG.lays h10 hW) (fun _ h => h) hk) hi).1, hs⟩
  · have e : ci = 10 := by omega
    subst e
    have hk2 : k < 2 := hk
    obtain ⟨-, -, -, -, -, -, hS, hv, hc, -⟩ := hG
    obtain ⟨cf, kf, fi, fd, hi, hs⟩ := hS k hk2
    have hst : fd.isStatic = false := by
      have : k = 0 ∨ k = 1 := by omega
      rcases this with rfl | rfl
      · obtain ⟨_, _, _, fd', h1, h2⟩ := hv
        have e1 : some (cf, kf, fi, fd) = some (_, _, _, fd') := hi.symm.trans h1
        cases e1; exact h2
      · obtain ⟨_, _, _, fd', h1, h2⟩ := hc
        have e1 : some (cf, kf, fi, fd) = some (_, _, _, fd') := hi.symm.trans h1
        cases e1; exact h2
    obtain ⟨kf', hi', -⟩ := State.fieldFound?_setVm (s := G.s) hW.alike hi
    exact ⟨cf, kf', fi, fd, by simpa only [State.fieldFound?, State.vm_setVm] using hi', hst, hs⟩
def fitC (t : Nat) (v : Value) : Prop := match t, v with
  | 0, .int _ => True
  | 1, .int x => x = 0 ∨ x = 1
  | 2, .ref _ => True
  | 2, .null => True
  | _, _ => False
def tyC (t : Nat) (ty : FieldType) : Bool := match t, ty with
  | 0, .int => true
  | 1, .boolean => true
  | 2, .object _ => true
  | 2, .array _ => true
  | _, _ => false
theorem fitC_spec (G : Gam) {t : Nat} {ty : FieldType} {v : Value} (h : tyC t ty = true) (hv : fitC t v) : narrow ty (sh G v) = sh G v ∧ fits ty (sh G v) = true := by
  unfold tyC at h
  unfold fitC at hv
  split at h <;> split at hv <;> simp_all [narrow, fits, sh]
  rcases hv with rfl | rfl <;> simp
theorem Ok.apart {G : Gam} (hG : Ok G) {ci : Nat} (hci : ci < 10) {s : State} (hW : G.s.WarmedH s.vm) : ∀ x y, x < clK ci → y < clK ci → x ≠ y → G.dI ci x ≠ G.dI ci y := by
  intro x y hx hy hne
  obtain ⟨hS, -⟩ := hG.kn hci hW
  obtain ⟨_, _, _, fa, hia, ea⟩ := hS x hx
  obtain ⟨_, _, _, fb, hib, eb⟩ := hS y hy
  rw [← ea, ← eb]
  refine u_apart (args := #[]) (u_lays (hG.lays hci hW) (fun _ h => h) hx) (u_lays (hG.lays hci hW) (fun _ h => h) hy) hia hib ?_
  rw [(State.fieldFound?_type hia (clTy ci hci x hx)).1, (State.fieldFound?_type hib (clTy ci hci y hy)).1]
  exact clNm ci hci x hx y hy hne
section VMem
variable {G : Gam} {X : Fx} {pc n z : Nat} {ls st : List Value} {f : Mf}
theorem v_getfield {r ci k idx : Nat} {fs : List Value} (hd : decode (mC X.i) pc = .ok (.getfield idx, 3)) (hci : ci ≤ 10) (hk : k < clK ci) (hw : Cond.fieldLink (mY X.i).cls idx (clT ci k).1 (clT ci k).2.1 (clT ci k).2.2.1 ∈ lw_tbl) (hf : f r = cO ci fs) (h : V G X (pc + 3) ls (vp_V fs k :: st) n z f) : V G X pc ls (.ref r :: st) n z f := by
  intro p e s m args below meth c H lm hC hR hE hL
  obtain ⟨hG, hx, hb, hml, hr, hlk, hown, hnm, hW, hR0⟩ := id hC
  obtain ⟨cf, kf, fi, fd, hi, hst, hsl⟩ := hG.fld hW hci hk
  obtain ⟨ce, c1, c2, -⟩ := hR.1.cel hG (k := r) (by rw [hf]; intro q; cases q)
  rw [hf] at c2
  have c2 : ce.vm ≠ .unknown ∧ ∀ k, k < clK ci → ce.slots[G.dI ci k]? = some (sh G (vp_V fs k)) := by
    rcases c2 with ⟨-, c3, c4⟩ | ⟨-, -, c3, c4⟩
    · exact ⟨fun q => (by rw [c3] at q; cases q), c4⟩
    · exact ⟨c3, c4⟩
  obtain ⟨c3, c4⟩ := c2
  exact W.getf hx hb hown (hG.word hw rfl hW) hi hst c1 c3 (by rw [hsl]; exact c4 k hk) rfl rfl hd (h p e s m args below meth c H lm hC hR hE hL)
theorem v_putfield {r ci k idx t : Nat} {fs : List Value} {v : Value} (hd : decode (mC X.i) pc = .ok (.putfield idx, 3)) (hci : ci < 10) (hk : k < clK ci) (hw : Cond.fieldLink (mY X.i).cls idx (clT ci k).1 (clT ci k).2.1 (clT ci k).2.2.1 ∈ lw_tbl) (hfin : (clT ci k).2.2.2 = false ∨ ((clT ci k).2.2.2 = true ∧ (mY X.i).name = "<init>" ∧ (clT ci k).1 = (mY X.i).cls)) (ht : tyC t (clY ci k) = true)
    (hr0 : r < OLD) (hf : f r = cO ci fs) (hl : k < fs.length) (hv : fitC t v) (h : V G X (pc + 3) ls st n z (upC f r (cO ci (fs.set k v)))) : V G X pc ls (v :: .ref r :: st) n z f := by
  intro p e s m args below meth c H lm hC hR hE hL
  obtain ⟨hG, hx, hb, hml, hr, hlk, hown, hnm, hW, hR0⟩ := id hC
  obtain ⟨ce, c1, c2, hrn, hsz⟩ := hR.1.celN hG (k := r) hr0 (by rw [hf]; intro q; cases q)
  rw [hf] at c2 hsz
  obtain ⟨c2, c3, c4⟩ := c2
  have had : ad G r = G.s.heap.size + r := by rw [ad, if_pos hr0]
  obtain ⟨hS, hfc, kC, hkC, hkind⟩ := hG.kn hci hW
  obtain ⟨cf, kf, fi, fd, hi, hsl⟩ := hS k hk
  obtain ⟨fn, ff⟩ := fitC_spec G ht hv
  have hst := (u_facts (args := args) hfc hkC (u_lays (hG.lays hci hW) (fun _ h => h) hk) hi).1
  have hty := clTy ci hci k hk
  have hlay : (u_lay (clN ci) (clT ci) k).before args s = true := hG.lays hci hW _ (u_in_lay hk)
  have hap := hG.apart hci hW
  have fin : ∀ H' : Heap, H'[ad G r]? = some (ce.setSlot (G.dI ci k) (sh G v)) → H'.size = H.size → (∀ q, q ≠ ad G r → H'[q]? = H[q]?) → W p G.l e (rmm X.d X.n X.z) s m args below meth c H' (lall G s ++ [⟨ad G r, G.dI ci k⟩]) (n - X.n) (z - X.z) (MQX G X below args s) (F0 m (pc + 3) lm (st.map (sh G))) := by
    intro H' e1 e2 e3
    rw [had] at e1 e3
    have hc : csz (cO ci (fs.set k v)) = csz (f r) := by rw [hf]; rfl
    have hR' : Rm G n z (upC f r (cO ci (fs.set k v))) H' := ⟨hR.1.set hrn e1 ⟨c2, c3, fun j hj => by
      rw [← vp_updV_set hl v j]
      have := t_set (V := fun j => sh G (vp_V fs j)) c4 hap hk (sh G v) j hj
      rw [this]
      by_cases q : j = k
      · simp [updV, q]
      · simp [updV, q]⟩ (by rw [k2_slotsz]; exact hsz) hc e2 e3, hR.2⟩
    have hE' := hE.set (k := r) hc
    exact W.tight G hR0.1 hR'.1 hE' (h p e s m args below meth c H' lm hC hR' hE' hL)
  rcases hfin with hfin | ⟨hfin, hin, hdecl⟩
  · unfold u_lay at hlay
    rw [if_neg (by rw [hfin]; decide)] at hlay
    have h6 := u_store hfc hkC hkind hlay hi hty fn ff
    refine W.putK hx hb (f := fd) ⟨hown, hG.word hw rfl hW, ⟨_, _, _, hi⟩, hst⟩ (by rw [c2]; exact h6) c1 c3 (by rw [hsl]; exact k2_hasslot (c4 k hk)) rfl rfl hd fun H' e1 e2 e3 => ?_
    rw [hsl] at e1 ⊢
    exact fin H' e1 e2 e3
  · unfold u_lay at hlay
    rw [if_pos hfin] at hlay
    have hcf : m.cls = cf := by
      obtain ⟨_, _, c', _, _, _, -, -, hf', -, -, -, hown2, -⟩ := Cond.laysFinal_spec hlay
      have e1 : c' = cf := by have := hi.symm.trans hf'; simp at this; exact this.1.symm
      rw [hdecl] at hown2
      rw [← e1]; exact Option.some.inj (hown.symm.trans hown2)
    have h6 := u_fits hfc hkC hkind (Or.inr hlay) hi hty fn ff
    refine W.putFinK hx hb hown (hG.word hw rfl hW) hi hst hcf (hnm.trans hin) (by rw [c2]; exact h6) c1 c3 (by rw [hsl]; exact k2_hasslot (c4 k hk)) rfl rfl hd fun H' e1 e2 e3 => ?_
    rw [hsl] at e1 ⊢
    exact fin H' e1 e2 e3
theorem v_getstatic0 {j idx : Nat} {v : Value} (hd : decode (mC X.i) pc = .ok (.getstatic idx, 3)) (hw : Cond.fieldLink (mY X.i).cls idx (stN j).1 (stN j).2.1 (stN j).2.2 ∈ lw_tbl) (hv : Ok G → StatOk G j v) (h : V G X (pc + 3) ls (v :: st) n z f) : V G X pc ls st n z f := by
  intro p e s m args below meth c H lm hC hR hE hL
  obtain ⟨hG, hx, hb, hml, hr, hlk, hown, hnm, hW, hR0⟩ := id hC
  obtain ⟨cf, kf, fi, fd, a, ce, a1, a2, a3, a4, a5, a6, a7, a8⟩ := hv hG
  obtain ⟨k', hi', he⟩ := State.fieldFound?_setVm (s := G.s) hW.alike a1
  have hi2 : s.fieldFound? (stN j).1 (stN j).2.1 (stN j).2.2 = some (cf, k', fi, fd) := by simpa only [State.fieldFound?, State.vm_setVm] using hi'
  exact W.gets hx hb hown (hG.word hw rfl hW) hi2 a2 (by rw [he]; exact a3) (by rw [he]; exact a4) (by rw [hR.1.2.2.2.1 a a5]; exact a6) a7 a8 rfl hd (h p e s m args below meth c H lm hC hR hE hL)
theorem v_getstatic {j idx : Nat} (hd : decode (mC X.i) pc = .ok (.getstatic idx, 3)) (hj : j < 3) (hw : Cond.fieldLink (mY X.i).cls idx (stN j).1 (stN j).2.1 (stN j).2.2 ∈ lw_tbl) (h : V G X (pc + 3) ls (sv j :: st) n z f) : V G X pc ls st n z f :=
  v_getstatic0 hd hw (fun hG => hG.2.2.2.2.1.1 j hj) h
theorem v_getstatic3 {idx : Nat} (hd : decode (mC X.i) pc = .ok (.getstatic idx, 3)) (hw : Cond.fieldLink (mY X.i).cls idx (stN 3).1 (stN 3).2.1 (stN 3).2.2 ∈ lw_tbl) (h : V G X (pc + 3) ls (.null :: st) n z f) (h2 : V G X (pc + 3) ls (.ref 1000002 :: st) n z f) : V G X pc ls st n z f := by
  intro p e s m args below meth c H lm hC hR hE hL
  rcases hC.1.2.2.2.2.1.2 with q | q
  · exact v_getstatic0 hd hw (fun _ => q) h p e s m args below meth c H lm hC hR hE hL
  · exact v_getstatic0 hd hw (fun _ => q) h2 p e s m args below meth c H lm hC hR hE hL
theorem Ok.arr {G : Gam} (hG : Ok G) {s : State} (hW : G.s.WarmedH s.vm) {t : Nat} (ht : t < 4) : ArrOfT s (G.aC t) (aT t) ∧ s.vm.findClass ("[" ++ (aT t).toString) = some (G.aC t) :=
  ⟨arrOfT_moved hW.alike (hG.2.2.1 t ht).1, by rw [hW.alike.findClass]; exact (hG.2.2.1 t ht).2⟩
theorem v_alen {r t N : Nat} {g : Nat → Int32} (hd : decode (mC X.i) pc = .ok (.arraylength, 1)) (ht : t < 4) (hf : f r = .inl (t, N, g)) (h : V G X (pc + 1) ls (.int (Int32.ofNat N) :: st) n z f) : V G X pc ls (.ref r :: st) n z f := by
  intro p e s m args below meth c H lm hC hR hE hL
  obtain ⟨hG, hx, hb, hml, hr, hlk, hown, hnm, hW, hR0⟩ := id hC
  obtain ⟨ce, c1, c2, -⟩ := hR.1.cel hG (k := r) (by rw [hf]; intro q; cases q; omega)
  rw [hf] at c2
  rcases c2 with c2 | ⟨c2, c3, c4, c5, c6⟩
  · have c2 : ce = _ := c2
    subst c2
    exact W.alen (ty := aT t) (n := Int32.ofNat N) hx hb c1 ((hG.arr hW ht).1 _ _) (by rw [arrV_size]) rfl rfl hd (h p e s m args below meth c H lm hC hR hE hL)
  · exact W.alen (ty := aT t) (n := Int32.ofNat N) hx hb c1 (State.isArrayOf_alike hW.alike c2) (by rw [← c5]) rfl rfl hd (h p e s m args below meth c H lm hC hR hE hL)
theorem v_iaload {r N : Nat} {x : Int32} {g : Nat → Int32} (hd : decode (mC X.i) pc = .ok (.iaload, 1)) (hf : f r = cI N g) (hi : vp_in x N) (h : V G X (pc + 1) ls (.int (g x.toNatClampNeg) :: st) n z f) : V G X pc ls (.int x :: .ref r :: st) n z f := by
  intro p e s m args below meth c H lm hC hR hE hL
  obtain ⟨hG, hx, hb, hml, hr, hlk, hown, hnm, hW, hR0⟩ := id hC
  obtain ⟨ce, c1, c2, -⟩ := hR.1.cel hG (k := r) (by rw [hf]; intro q; cases q)
  rw [hf] at c2
  have hlt : x.toNatClampNeg < N := Nat.not_le.mp fun q => hi (Or.inr q)
  rcases c2 with c2 | ⟨c2, c3, c4, c5, c6⟩
  · have c2 : ce = _ := c2
    subst c2
    exact W.iald (v := .int (g x.toNatClampNeg)) hx hb c1 ((hG.arr hW (t := 0) (by omega)).1 _ _) (fun q => by cases q) (by rw [arrV_size]; exact hi) (by rw [arrV_read _ _ hlt]) rfl rfl hd (h p e s m args below meth c H lm hC hR hE hL)
  · exact W.iald (v := .int (g x.toNatClampNeg)) hx hb c1 (State.isArrayOf_alike hW.alike c2) c3 (fun q => hi (q.imp_right (Nat.le_trans c4))) (c6 _ hlt) rfl rfl hd (h p e s m args below meth c H lm hC hR hE hL)
theorem v_baload {r N t : Nat} {x : Int32} {g : Nat → Int32} (hd : decode (mC X.i) pc = .ok (.baload, 1)) (ht : t = 1 ∨ t = 2) (hf : f r = .inl (t, N, g)) (hi : vp_in x N) (h : V G X (pc + 1) ls (.int (g x.toNatClampNeg) :: st) n z f) : V G X pc ls (.int x :: .ref r :: st) n z f := by
  intro p e s m args below meth c H lm hC hR hE hL
  obtain ⟨hG, hx, hb, hml, hr, hlk, hown, hnm, hW, hR0⟩ := id hC
  obtain ⟨ce, c1, c2, -⟩ := hR.1.cel hG (k := r) (by rw [hf]; intro q; cases q; omega)
  rw [hf] at c2
  have hlt : x.toNatClampNeg < N := Nat.not_le.mp fun q => hi (Or.inr q)
  rcases c2 with c2 | ⟨c2, c3, c4, c5, c6⟩
  rotate_left
  · rcases ht with rfl | rfl
    · exact W.bald (v := .int (g x.toNatClampNeg)) hx hb c1 (State.isArrayOf_alike hW.alike c2) c3 (fun q => hi (q.imp_right (Nat.le_trans c4))) (c6 _ hlt) rfl rfl hd (h p e s m args below meth c H lm hC hR hE hL)
    · exact W.zald (v := .int (g x.toNatClampNeg)) hx hb c1 (State.isArrayOf_alike hW.alike c2) c3 (fun q => hi (q.imp_right (Nat.le_trans c4))) (c6 _ hlt) rfl rfl hd (h p e s m args below meth c H lm hC hR hE hL)
  have c2 : ce = _ := c2
  subst c2
  rcases ht with rfl | rfl
  · exact W.bald (v := .int (g x.toNatClampNeg)) hx hb c1 ((hG.arr hW (t := 1) (by omega)).1 _ _) (fun q => by cases q) (by rw [arrV_size]; exact hi) (by rw [arrV_read _ _ hlt]) rfl rfl hd (h p e s m args below meth c H lm hC hR hE hL)
  · exact W.zald (v := .int (g x.toNatClampNeg)) hx hb c1 ((hG.arr hW (t := 2) (by omega)).1 _ _) (fun q => by cases q) (by rw [arrV_size]; exact hi) (by rw [arrV_read _ _ hlt]) rfl rfl hd (h p e s m args below meth c H lm hC hR hE hL)
theorem v_aaload {r N : Nat} {x : Int32} {g : Nat → Option Nat} (hd : decode (mC X.i) pc = .ok (.aaload, 1)) (hf : f r = cQ N g) (hi : vp_in x N) (h : V G X (pc + 1) ls (va_rf (g x.toNatClampNeg) :: st) n z f) : V G X pc ls (.int x :: .ref r :: st) n z f := by
  intro p e s m args below meth c H lm hC hR hE hL
  obtain ⟨hG, hx, hb, hml, hr, hlk, hown, hnm, hW, hR0⟩ := id hC
  obtain ⟨ce, c1, c2, -⟩ := hR.1.cel hG (k := r) (by rw [hf]; intro q; cases q)
  rw [hf] at c2
  have c2 : ce = _ := c2.resolve_right fun q => q
  subst c2
  have hlt : x.toNatClampNeg < N := Nat.not_le.mp fun q => hi (Or.inr q)
  exact W.aald (v := sh G (va_rf (g x.toNatClampNeg))) (ty := .array .byte) hx hb c1 ((hG.arr hW (t := 3) (by omega)).1 _ _) rfl (fun q => by cases q) (by rw [arrV_size]; exact hi) (by rw [arrV_read _ _ hlt]) rfl rfl hd (h p e s m args below meth c H lm hC hR hE hL)
/-- behind a store into an array -/
theorem v_stored {p : Program} {e : Env} {s : State} {m : MethodId} {args : Array Value} {below : List Frame} {meth : Method} {c : Code} {H : Heap} {lm : Array Slot} {L : List Loc} {r : Nat} {cel : Cel} {ce : Cell} (hC : Cx G X p s m meth c) (hR : Rm G n z f H) (hE : Ext X.n X.f n f) (hL : HL G ls lm (mL X.i)) (hr0 : r < OLD) (hrn : r < n) (hc : csz cel = csz (f r)) (hat : CelAt G cel ce) (hsz : ce.slots.size = csz cel)
    {H' : Heap} (e1 : H'[ad G r]? = some ce) (e2 : H'.size = H.size) (e3 : ∀ q, q ≠ ad G r → H'[q]? = H[q]?) (h : V G X pc ls st n z (upC f r cel)) : W p G.l e (rmm X.d X.n X.z) s m args below meth c H' (lall G s ++ L) (n - X.n) (z - X.z) (MQX G X below args s) (F0 m pc lm (st.map (sh G))) := by
  have had : ad G r = G.s.heap.size + r := by rw [ad, if_pos hr0]
  rw [had] at e1 e3
  have hR' : Rm G n z (upC f r cel) H' := ⟨hR.1.set hrn e1 hat hsz hc e2 e3, hR.2⟩
  have hE' := hE.set (k := r) hc
  exact W.tight G hC.2.2.2.2.2.2.2.2.2.1 hR'.1 hE' (h p e s m args below meth c H' lm hC hR' hE' hL)
theorem v_iastore {r N : Nat} {x y : Int32} {g : Nat → Int32} (hd : decode (mC X.i) pc = .ok (.iastore, 1)) (hr0 : r < OLD) (hf : f r = cI N g) (hi : vp_in x N) (h : V G X (pc + 1) ls st n z (upC f r (cI N (upd g x.toNatClampNeg y)))) : V G X pc ls (.int y :: .int x :: .ref r :: st) n z f := by
  intro p e s m args below meth c H lm hC hR hE hL
  obtain ⟨hG, hx, hb, hml, hr, hlk, hown, hnm, hW, hR0⟩ := id hC
  obtain ⟨ce, c1, c2, hrn, hsz⟩ := hR.1.celN hG (k := r) hr0 (by rw [hf]; intro q; cases q)
  rw [hf] at c2
  have c2 : ce = _ := c2
  subst c2
  refine W.iast hx hb c1 ((hG.arr hW (t := 0) (by omega)).1 _ _) (fun q => by cases q) (by rw [arrV_size]; exact hi) rfl rfl hd fun H' e1 e2 e3 => ?_
  refine v_stored (ls := ls) (cel := cI N (upd g x.toNatClampNeg y)) hC hR hE hL hr0 hrn (by rw [hf]; rfl) ?_ (by rw [k2_slotsz]; exact hsz.trans (by rw [hf]; rfl)) e1 e2 e3 h
  show _ = arrV _ _ _
  rw [arrV_store]
  congr 1
  funext j
  by_cases q : j = x.toNatClampNeg <;> simp [updV, upd, q]
theorem v_bastore {r N : Nat} {x y : Int32} {g : Nat → Int32} (hd : decode (mC X.i) pc = .ok (.bastore, 1)) (hr0 : r < OLD) (hf : f r = cB N g) (hi : vp_in x N) (h : V G X (pc + 1) ls st n z (upC f r (cB N (upd g x.toNatClampNeg y.toInt8.toInt32)))) : V G X pc ls (.int y :: .int x :: .ref r :: st) n z f := by
  intro p e s m args below meth c H lm hC hR hE hL
  obtain ⟨hG, hx, hb, hml, hr, hlk, hown, hnm, hW, hR0⟩ := id hC
  obtain ⟨ce, c1, c2, hrn, hsz⟩ := hR.1.celN hG (k := r) hr0 (by rw [hf]; intro q; cases q)
  rw [hf] at c2
  have c2 : ce = _ := c2
  subst c2
  refine W.bast hx hb c1 ((hG.arr hW (t := 1) (by omega)).1 _ _) (fun q => by cases q) (by rw [arrV_size]; exact hi) rfl rfl hd fun H' e1 e2 e3 => ?_
  refine v_stored (ls := ls) (cel := cB N (upd g x.toNatClampNeg y.toInt8.toInt32)) hC hR hE hL hr0 hrn (by rw [hf]; rfl) ?_ (by rw [k2_slotsz]; exact hsz.trans (by rw [hf]; rfl)) e1 e2 e3 h
  show _ = arrV _ _ _
  rw [arrV_store]
  congr 1
  funext j
  by_cases q : j = x.toNatClampNeg <;> simp [updV, upd, q, narrow]
theorem v_zastore {r N : Nat} {x y : Int32} {g : Nat → Int32} (hd : decode (mC X.i) pc = .ok (.bastore, 1)) (hr0 : r < OLD) (hf : f r = cZ N g) (hi : vp_in x N) (h : V G X (pc + 1) ls st n z (upC f r (cZ N (upd g x.toNatClampNeg (y &&& 1))))) : V G X pc ls (.int y :: .int x :: .ref r :: st) n z f := by
  intro p e s m args below meth c H lm hC hR hE hL
  obtain ⟨hG, hx, hb, hml, hr, hlk, hown, hnm, hW, hR0⟩ := id hC
  obtain ⟨ce, c1, c2, hrn, hsz⟩ := hR.1.celN hG (k := r) hr0 (by rw [hf]; intro q; cases q)
  rw [hf] at c2
  have c2 : ce = _ := c2
  subst c2
  refine W.zast hx hb c1 ((hG.arr hW (t := 2) (by omega)).1 _ _) (fun q => by cases q) (by rw [arrV_size]; exact hi) rfl rfl hd fun H' e1 e2 e3 => ?_
  refine v_stored (ls := ls) (cel := cZ N (upd g x.toNatClampNeg (y &&& 1))) hC hR hE hL hr0 hrn (by rw [hf]; rfl) ?_ (by rw [k2_slotsz]; exact hsz.trans (by rw [hf]; rfl)) e1 e2 e3 h
  show _ = arrV _ _ _
  rw [arrV_store]
  congr 1
  funext j
  by_cases q : j = x.toNatClampNeg <;> simp [updV, upd, q, narrow]
end VMem
