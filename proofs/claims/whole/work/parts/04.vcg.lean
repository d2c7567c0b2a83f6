-- WHAT THE START GIVES, and the judgement V: the machine at an abstract configuration comes to the method's end
abbrev CAP : Nat := 600000
abbrev SCAP : Nat := 7302249
def dead : Value := .retAddr 0
/-- a static field that nobody writes -/
def StatOk (G : Gam) (j : Nat) (v : Value) : Prop := ∃ (cf : ClassId) (kf : Class) (fi : Nat) (fd : Field) (a : Nat) (ce : Cell), G.s.fieldFound? (stN j).1 (stN j).2.1 (stN j).2.2 = some (cf, kf, fi, fd) ∧ fd.isStatic = true ∧ kf.init = .initialized ∧ kf.statics = some a ∧ a < G.s.heap.size ∧ G.s.heap[a]? = some ce ∧ ce.vm ≠ .unknown ∧ ce.slots[fd.slot]? = some (sh G v)
def sv : Nat → Value := fun k => match k with
  | 0 => .ref 1000000 | 1 => .ref 1000001 | 2 => .int 1 | _ => .ref 1000002
def Ok (G : Gam) : Prop :=
  (∀ w ∈ lw_tbl, w.before G.a G.s = true) ∧
  (∀ ci, ci < 10 → u_Kn G.s (clN ci) (clT ci) (clK ci) (G.dC ci) (G.dI ci)) ∧
  (∀ t, t < 4 → ArrOfT G.s (G.aC t) (aT t) ∧ G.s.vm.findClass ("[" ++ (aT t).toString) = some (G.aC t)) ∧
  (∀ k, OLD ≤ k → G.oc k = junk ∨ (G.od (k - OLD) < G.s.heap.size ∧ ∃ ce, G.s.heap[G.od (k - OLD)]? = some ce ∧ CelO G (G.oc k) ce)) ∧
  ((∀ j, j < 3 → StatOk G j (sv j)) ∧ (StatOk G 3 .null ∨ StatOk G 3 (.ref 1000002))) ∧
  (∀ own idx tx j, Cond.stringRef own idx tx ∈ lw_tbl → stxt[j]? = some tx → vk_R own idx tx (G.od (10 + 2 * j)) G.s) ∧
  (∀ k, k < 2 → SlotIs G.s (clT 10 k).1 (clT 10 k).2.1 (clT 10 k).2.2.1 (G.dI 10 k)) ∧ (∃ cf kf fi fd, G.s.fieldFound? "java/lang/String" "value" "[B" = some (cf, kf, fi, fd) ∧ fd.isStatic = false) ∧ (∃ cf kf fi fd, G.s.fieldFound? "java/lang/String" "coder" "B" = some (cf, kf, fi, fd) ∧ fd.isStatic = false) ∧ G.s.vm.findClass RJ0 = some (G.dC 10) ∧ ∃ kA : Class, G.s.vm.classes[G.aC 3]? = some kA ∧ kA.kind = .array (G.aC 1) (.array .byte)
abbrev Po : Type := Option Value → Nat → Nat → Mf → Prop
/-- a frame: which method, how deep it may call, the memory at its entry, what must hold at its end -/
abbrev Fx : Type := Nat × Nat × Nat × Nat × Mf × Po
abbrev Fx.i (X : Fx) : Nat := X.1
abbrev Fx.d (X : Fx) : Nat := X.2.1
abbrev Fx.n (X : Fx) : Nat := X.2.2.1
abbrev Fx.z (X : Fx) : Nat := X.2.2.2.1
abbrev Fx.f (X : Fx) : Mf := X.2.2.2.2.1
abbrev Fx.Q (X : Fx) : Po := X.2.2.2.2.2
def rmm (d n z : Nat) : Room := { frames := d, cells := CAP - n, slots := SCAP - z, locals := 64 * d }
def Rm (G : Gam) (n z : Nat) (f : Mf) (H : Heap) : Prop := Rl G n z f H ∧ n ≤ CAP ∧ z ≤ SCAP
def Qcc (G : Gam) (n : Nat) (f : Mf) (Q : Po) : Array Value → State → Outcome → State → Prop := fun _ _ o t =>
  ∃ (v : Option Value) (n' z' : Nat) (f' : Mf), o = .returned (v.map (sh G)) ∧ Q v n' z' f' ∧ Rm G n' z' f' t.heap ∧ Ext n f n' f'
def Tr (G : Gam) (d i : Nat) (av : List Value) (n z : Nat) (f : Mf) (Q : Po) : Prop :=
  Met G.l (mY i) [.code (mY i) (mC i) (mL i) (mR i)] (rmm d n z) (va_Pc (av.map (sh G)) (fun U => G.s.WarmedH U.vm ∧ Rm G n z f U.heap)) (Qcc G n f Q) (CAP - n) (SCAP - z) (fun a => G.s.heap.size ≤ a)
def HL (G : Gam) (ls : List Value) (lm : Array Slot) (nL : Nat) : Prop := lm.size = nL ∧ ls.length = nL ∧ lv_wf lm ∧ ∀ (k : Nat) (v : Value), ls[k]? = some v → v ≠ dead → lm[k]? = some (.val (sh G v))
def Cx (G : Gam) (X : Fx) (p : Program) (s : State) (m : MethodId) (meth : Method) (c : Code) : Prop :=
  Ok G ∧ p.tables.exec = Jvm.exec ∧ c.code = mC X.i ∧ c.maxLocals = mL X.i ∧ meth.sig.returnType = mR X.i ∧ meth.locks = false ∧ s.vm.findClass (mY X.i).cls = some m.cls ∧ meth.name = (mY X.i).name ∧ G.s.WarmedH s.vm ∧ Rm G X.n X.z X.f s.heap
abbrev MQX (G : Gam) (X : Fx) (below : List Frame) (args : Array Value) (s : State) : State → Prop := MQ below (Qcc G X.n X.f X.Q) args s (CAP - X.n) (SCAP - X.z) (fun a => G.s.heap.size ≤ a)
def V (G : Gam) (X : Fx) (pc : Nat) (ls st : List Value) (n z : Nat) (f : Mf) : Prop :=
  ∀ (p : Program) (e : Env) (s : State) (m : MethodId) (args : Array Value) (below : List Frame) (meth : Method) (c : Code) (H : Heap) (lm : Array Slot),
    Cx G X p s m meth c → Rm G n z f H → Ext X.n X.f n f → HL G ls lm (mL X.i) →
    W p G.l e (rmm X.d X.n X.z) s m args below meth c H (lall G s) (n - X.n) (z - X.z) (MQX G X below args s) (F0 m pc lm (st.map (sh G)))
theorem Ok.word {G : Gam} (h : Ok G) {w : Cond} (hw : w ∈ lw_tbl) (hg : goodWord w = true) {a : Array Value} {U : State} (hW : G.s.WarmedH U.vm) : w.before a U = true := word_at hW (good_of_word hg) (h.1 w hw)
theorem HL.get {G : Gam} {ls : List Value} {lm : Array Slot} {nL : Nat} (h : HL G ls lm nL) {k : Nat} {v : Value} (hk : ls[k]? = some v) (hd : v ≠ dead) : lm[k]? = some (.val (sh G v)) := h.2.2.2 k v hk hd
/-- the locals as the kit lists them -/
def toLv (G : Gam) (ls : List Value) : List (Nat × Value) := (List.range ls.length).filterMap fun k => match ls[k]? with
  | some v => if v = dead then none else some (k, sh G v)
  | none => none
theorem toLv_mem {G : Gam} {ls : List Value} {q : Nat × Value} (h : q ∈ toLv G ls) : ∃ v, ls[q.1]? = some v ∧ v ≠ dead ∧ q.2 = sh G v := by
  obtain ⟨k, -, hk⟩ := List.mem_filterMap.mp h
  cases hv : ls[k]? with
  | none => rw [hv] at hk; cases hk
  | some v =>
    rw [hv] at hk
    by_cases hd : v = dead
    · rw [show (match some v with | some v => if v = dead then none else some (k, sh G v) | none => none) = (none : Option (Nat × Value)) from if_pos hd] at hk; cases hk
    · rw [show (match some v with | some v => if v = dead then none else some (k, sh G v) | none => none) = some (k, sh G v) from if_neg hd] at hk
      cases hk
      exact ⟨v, hv, hd, rfl⟩
theorem toLv_in {G : Gam} {ls : List Value} {k : Nat} {v : Value} (h : ls[k]? = some v) (hd : v ≠ dead) : (k, sh G v) ∈ toLv G ls := by
  refine List.mem_filterMap.mpr ⟨k, List.mem_range.mpr (List.getElem?_eq_some_iff.mp h).1, ?_⟩
  rw [h]
  exact if_neg hd
theorem HL.lv {G : Gam} {ls : List Value} {lm : Array Slot} {nL : Nat} (h : HL G ls lm nL) : lv_has lm nL (toLv G ls) :=
  ⟨h.1, h.2.2.1, fun q hq => by obtain ⟨v, h1, h2, h3⟩ := toLv_mem hq; rw [h3]; exact h.2.2.2 _ _ h1 h2⟩
/-- no long lies over the place -/
def noL (ls : List Value) (a : Nat) : Bool := match a with
  | 0 => true
  | a + 1 => match ls[a]? with
    | some (.long _) => false
    | some (.double _) => false
    | _ => true
theorem noL_spec {ls : List Value} {a k : Nat} {v : Value} (h : noL ls a = true) (hk : ls[k]? = some v) (he : k + 1 = a) : v.category ≠ 2 := by
  subst he
  unfold noL at h
  simp only [hk] at h
  cases v <;> simp_all [Value.category]
theorem HL.set1 {G : Gam} {ls : List Value} {lm : Array Slot} {nL i : Nat} {v : Value} (h : HL G ls lm nL) (hn : noL ls i = true) {lm' : Array Slot} (hv : lv_has lm' nL ((i, sh G v) :: (toLv G ls).filter (fun q => !(q.1 == i) && !(q.1 + 1 == i && q.2.category == 2)))) : HL G (ls.set i v) lm' nL := by
  obtain ⟨a1, a2, a3⟩ := hv
  refine ⟨a1, by rw [List.length_set]; exact h.2.1, a2, fun k w hk hd => ?_⟩
  by_cases e : k = i
  · subst e
    have hl : k < ls.length := by
      have := (List.getElem?_eq_some_iff.mp hk).1
      rwa [List.length_set] at this
    rw [List.getElem?_set_self hl] at hk
    cases hk
    exact a3 _ List.mem_cons_self
  · rw [List.getElem?_set_ne (Ne.symm e)] at hk
    refine a3 (k, sh G w) (List.mem_cons_of_mem _ (List.mem_filter.mpr ⟨toLv_in hk hd, ?_⟩))
    have h1 : ¬ (k + 1 = i ∧ (sh G w).category = 2) := fun q => noL_spec hn hk q.1 (by rw [← sh_cat G w]; exact q.2)
    simp only [Bool.and_eq_true, Bool.not_eq_true', beq_eq_false_iff_ne, ne_eq, Bool.and_eq_false_iff]
    exact ⟨e, by by_cases q : k + 1 = i; exact Or.inr (fun z => h1 ⟨q, z⟩); exact Or.inl q⟩
theorem HL.set2 {G : Gam} {ls : List Value} {lm : Array Slot} {nL i : Nat} {v : Value} (h : HL G ls lm nL) (hn : noL ls i = true) {lm' : Array Slot} (hv : lv_has lm' nL ((i, sh G v) :: (toLv G ls).filter (fun q => !(q.1 == i) && (!(q.1 == i + 1) && !(q.1 + 1 == i && q.2.category == 2))))) : HL G ((ls.set i v).set (i + 1) dead) lm' nL := by
  obtain ⟨a1, a2, a3⟩ := hv
  refine ⟨a1, by rw [List.length_set, List.length_set]; exact h.2.1, a2, fun k w hk hd => ?_⟩
  have e2 : k ≠ i + 1 := by
    intro e
    subst e
    have hl : i + 1 < (ls.set i v).length := by
      have := (List.getElem?_eq_some_iff.mp hk).1
      rwa [List.length_set] at this
    rw [List.getElem?_set_self hl] at hk
    cases hk
    exact hd rfl
  rw [List.getElem?_set_ne (Ne.symm e2)] at hk
  by_cases e : k = i
  · subst e
    have hl : k < ls.length := by
      have := (List.getElem?_eq_some_iff.mp hk).1
      rwa [List.length_set] at this
    rw [List.getElem?_set_self hl] at hk
    cases hk
    exact a3 _ List.mem_cons_self
  · rw [List.getElem?_set_ne (Ne.symm e)] at hk
    refine a3 (k, sh G w) (List.mem_cons_of_mem _ (List.mem_filter.mpr ⟨toLv_in hk hd, ?_⟩))
    have h1 : ¬ (k + 1 = i ∧ (sh G w).category = 2) := fun q => noL_spec hn hk q.1 (by rw [← sh_cat G w]; exact q.2)
    simp only [Bool.and_eq_true, Bool.not_eq_true', beq_eq_false_iff_ne, ne_eq, Bool.and_eq_false_iff]
    exact ⟨e, e2, by by_cases q : k + 1 = i; exact Or.inr (fun z => h1 ⟨q, z⟩); exact Or.inl q⟩
theorem HL.dead {G : Gam} {ls : List Value} {lm : Array Slot} {nL : Nat} (h : HL G ls lm nL) (i : Nat) : HL G (ls.set i dead) lm nL := by
  refine ⟨h.1, by rw [List.length_set]; exact h.2.1, h.2.2.1, fun k w hk hd => ?_⟩
  by_cases e : k = i
  · subst e
    have hl : k < ls.length := by
      have := (List.getElem?_eq_some_iff.mp hk).1
      rwa [List.length_set] at this
    rw [List.getElem?_set_self hl] at hk
    cases hk
    exact absurd rfl hd
  · rw [List.getElem?_set_ne (Ne.symm e)] at hk
    exact h.2.2.2 k w hk hd
/-- a local that is not needed may be forgotten -/
theorem V.forget {G : Gam} {X : Fx} {pc : Nat} {ls st : List Value} {n z : Nat} {f : Mf} (i : Nat) (h : V G X pc (ls.set i dead) st n z f) : V G X pc ls st n z f :=
  fun p e s m args below meth c H lm hC hR hE hL => h p e s m args below meth c H lm hC hR hE (hL.dead i)
-- memory: what a write and a making keep
theorem Rl.cel {G : Gam} {n z : Nat} {f : Mf} {H : Heap} (hG : Ok G) (h : Rl G n z f H) {k : Nat} (hj : f k ≠ junk) : ∃ ce, H[ad G k]? = some ce ∧ (CelAt G (f k) ce ∨ CelO G (f k) ce) ∧ (k < OLD → CelAt G (f k) ce ∧ k < n ∧ ce.slots.size = csz (f k)) := by
  obtain ⟨h1, h2, h3, h4, h5, h6, h7⟩ := h
  by_cases hk : k < OLD
  · have hn : k < n := by
      rcases Nat.lt_or_ge k n with q | q
      · exact q
      · exact absurd (h6 k q hk) hj
    obtain ⟨ce, b1, b2, b3⟩ := h5 k hn
    exact ⟨ce, by rw [ad, if_pos hk]; exact b1, Or.inl b2, fun _ => ⟨b2, hn, b3⟩⟩
  · have hk' : OLD ≤ k := Nat.not_lt.mp hk
    rw [h7 k hk'] at hj ⊢
    rcases hG.2.2.2.1 k hk' with q | ⟨q1, ce, q2, q3⟩
    · exact absurd q hj
    · exact ⟨ce, by rw [ad, if_neg hk, h4 _ q1]; exact q2, Or.inr q3, fun q => absurd q hk⟩
theorem Rl.celN {G : Gam} {n z : Nat} {f : Mf} {H : Heap} (hG : Ok G) (h : Rl G n z f H) {k : Nat} (hk : k < OLD) (hj : f k ≠ junk) : ∃ ce, H[ad G k]? = some ce ∧ CelAt G (f k) ce ∧ k < n ∧ ce.slots.size = csz (f k) := by
  obtain ⟨ce, c1, -, c2⟩ := h.cel hG hj
  exact ⟨ce, c1, c2 hk⟩
theorem Rl.set {G : Gam} {n z k : Nat} {f : Mf} {H H1 : Heap} {c : Cel} {ce : Cell} (h : Rl G n z f H) (hk : k < n) (h1 : H1[G.s.heap.size + k]? = some ce) (h2 : CelAt G c ce) (h3 : ce.slots.size = csz c) (hc : csz c = csz (f k)) (hs : H1.size = H.size) (ho : ∀ q, q ≠ G.s.heap.size + k → H1[q]? = H[q]?) : Rl G n z (upC f k c) H1 := by
  obtain ⟨a1, a2, a3, a4, a5, a6, a7⟩ := h
  refine ⟨hs.trans a1, a2, by rw [msz_set hc]; exact a3, fun q hq => by rw [ho q (by omega)]; exact a4 q hq, fun j hj => ?_, fun j hj hj2 => ?_, fun j hj => ?_⟩
  · by_cases e : j = k
    · subst e; rw [upC_self]; exact ⟨ce, h1, h2, h3⟩
    · rw [upC_ne f c e, ho _ (by omega)]; exact a5 j hj
  · rw [upC_ne f c (by omega)]; exact a6 j hj hj2
  · rw [upC_ne f c (by unfold OLD at *; omega)]; exact a7 j hj
theorem Rl.push {G : Gam} {n z : Nat} {f : Mf} {H H1 : Heap} {c : Cel} {ce : Cell} (h : Rl G n z f H) (hn : n + 1 < OLD) (h1 : H1[G.s.heap.size + n]? = some ce) (h2 : CelAt G c ce) (h3 : ce.slots.size = csz c) (hs : H1.size = H.size + 1) (ho : ∀ q, q < H.size → H1[q]? = H[q]?) : Rl G (n + 1) (z + csz c) (upC f n c) H1 := by
  obtain ⟨a1, a2, a3, a4, a5, a6, a7⟩ := h
  refine ⟨by omega, hn, by rw [msz_push, a3], fun q hq => by rw [ho q (by omega)]; exact a4 q hq, fun j hj => ?_, fun j hj hj2 => ?_, fun j hj => ?_⟩
  · by_cases e : j = n
    · subst e; rw [upC_self]; exact ⟨ce, h1, h2, h3⟩
    · rw [upC_ne f c e, ho _ (by omega)]; exact a5 j (by omega)
  · rw [upC_ne f c (by omega)]; exact a6 j (by omega) hj2
  · rw [upC_ne f c (by unfold OLD at *; omega)]; exact a7 j hj
