-- THE ABSTRACT MACHINE: cells at concrete places; a place k below 1000000 is the k-th cell made since the law's entry
abbrev Cel : Type := (Nat × Nat × (Nat → Int32)) ⊕ ((Nat × (Nat → Option Nat)) ⊕ (Nat × List Value))
abbrev cI (n : Nat) (f : Nat → Int32) : Cel := .inl (0, n, f)
abbrev cB (n : Nat) (f : Nat → Int32) : Cel := .inl (1, n, f)
abbrev cZ (n : Nat) (f : Nat → Int32) : Cel := .inl (2, n, f)
abbrev cQ (n : Nat) (g : Nat → Option Nat) : Cel := .inr (.inl (n, g))
abbrev cO (ci : Nat) (fs : List Value) : Cel := .inr (.inr (ci, fs))
abbrev Mf : Type := Nat → Cel
def upC (f : Mf) (k : Nat) (c : Cel) : Mf := fun j => if j = k then c else f j
abbrev Gam : Type := Launch × State × (Nat → ClassId) × (Nat → Nat → Nat) × (Nat → ClassId) × (Nat → Nat) × Mf × Array Value
abbrev Gam.l (G : Gam) : Launch := G.1
abbrev Gam.s (G : Gam) : State := G.2.1
abbrev Gam.dC (G : Gam) : Nat → ClassId := G.2.2.1
abbrev Gam.dI (G : Gam) : Nat → Nat → Nat := G.2.2.2.1
abbrev Gam.aC (G : Gam) : Nat → ClassId := G.2.2.2.2.1
abbrev Gam.od (G : Gam) : Nat → Nat := G.2.2.2.2.2.1
abbrev Gam.oc (G : Gam) : Mf := G.2.2.2.2.2.2.1
abbrev Gam.a (G : Gam) : Array Value := G.2.2.2.2.2.2.2
def OLD : Nat := 1000000
def clN : Nat → String := fun k => match k with
  | 0 => RX0 | 1 => RX1 | 2 => RX2 | 3 => RX3 | 4 => RX4 | 5 => RX5 | 6 => RX6 | 7 => RX7 | 8 => RX8 | 9 => RX9 | _ => RJ0
def clT : Nat → u_T := fun k => match k with
  | 0 => TX0 | 1 => TX1 | 2 => TX2 | 3 => TX3 | 4 => TX4 | 5 => TX5 | 6 => TX6 | 7 => TX7 | 8 => TX8 | 9 => TX9
  | _ => fun j => if j = 0 then ("java/lang/String", "value", "[B", true) else ("java/lang/String", "coder", "B", true)
def clY : Nat → Nat → FieldType := fun k => match k with
  | 0 => tyX0 | 1 => tyX1 | 2 => tyX2 | 3 => tyX3 | 4 => tyX4 | 5 => tyX5 | 6 => tyX6 | 7 => tyX7 | 8 => tyX8 | 9 => tyX9
  | _ => fun j => if j = 0 then .array .byte else .byte
def clK : Nat → Nat := fun k => match k with
  | 0 => 19 | 1 => 5 | 2 => 8 | 3 => 3 | 4 => 7 | 5 => 11 | 6 => 13 | 7 => 6 | 8 => 14 | 9 => 36 | _ => 2
def aT : Nat → FieldType := fun k => match k with
  | 0 => .int | 1 => .byte | 2 => .boolean | _ => .array .byte
def ad (G : Gam) (k : Nat) : Nat := if k < OLD then G.s.heap.size + k else G.od (k - OLD)
def sh (G : Gam) : Value → Value
  | .ref k => .ref (ad G k)
  | v => v
theorem sh_int (G : Gam) (x : Int32) : sh G (.int x) = .int x := rfl
theorem sh_long (G : Gam) (x : Int64) : sh G (.long x) = .long x := rfl
theorem sh_null (G : Gam) : sh G .null = .null := rfl
theorem sh_ref (G : Gam) (k : Nat) : sh G (.ref k) = .ref (ad G k) := rfl
theorem sh_cat (G : Gam) (v : Value) : (sh G v).category = v.category := by cases v <;> rfl
def csz : Cel → Nat
  | .inl (_, n, _) => n
  | .inr (.inl (n, _)) => n
  | .inr (.inr (ci, _)) => clK ci
def CelAt (G : Gam) : Cel → Cell → Prop
  | .inl (t, n, f), ce => ce = arrV (G.aC t) n (fun j => .int (f j))
  | .inr (.inl (n, g)), ce => ce = arrV (G.aC 3) n (fun j => sh G (va_rf (g j)))
  | .inr (.inr (ci, fs)), ce => ce.cls = G.dC ci ∧ ce.vm = .none ∧ ∀ k, k < clK ci → ce.slots[G.dI ci k]? = some (sh G (vp_V fs k))
/-- an old cell: no more than the start says of it -/
def CelO (G : Gam) : Cel → Cell → Prop
  | .inl (t, n, f), ce => G.s.isArrayOf ce (aT t) ∧ ce.vm ≠ .unknown ∧ n ≤ ce.slots.size ∧ ce.slots.size.toInt32 = Int32.ofNat n ∧ ∀ j, j < n → ce.slots[j]? = some (.int (f j))
  | .inr (.inl _), _ => False
  | .inr (.inr (ci, fs)), ce => ce.cls = G.dC ci ∧ ce.vm.isStatics = false ∧ ce.vm ≠ .unknown ∧ ∀ k, k < clK ci → ce.slots[G.dI ci k]? = some (sh G (vp_V fs k))
/-- what stands at a place: a junk cell is of no kind -/
def junk : Cel := .inl (9, 0, fun _ => 0)
def msz : Nat → Mf → Nat
  | 0, _ => 0
  | n + 1, f => msz n f + csz (f n)
def Rl (G : Gam) (n z : Nat) (f : Mf) (H : Heap) : Prop :=
  H.size = G.s.heap.size + n ∧ n < OLD ∧ z = msz n f ∧ (∀ q, q < G.s.heap.size → H[q]? = G.s.heap[q]?) ∧
  (∀ k, k < n → ∃ cell, H[G.s.heap.size + k]? = some cell ∧ CelAt G (f k) cell ∧ cell.slots.size = csz (f k)) ∧
  (∀ k, n ≤ k → k < OLD → f k = junk) ∧ ∀ k, OLD ≤ k → f k = G.oc k
def Ext (n0 : Nat) (f0 : Mf) (n : Nat) (f : Mf) : Prop := n0 ≤ n ∧ ∀ k, k < n0 → csz (f k) = csz (f0 k)
theorem Ext.refl (n : Nat) (f : Mf) : Ext n f n f := ⟨Nat.le_refl _, fun _ _ => rfl⟩
theorem Ext.trans {n0 n1 n2 : Nat} {f0 f1 f2 : Mf} (h : Ext n0 f0 n1 f1) (h2 : Ext n1 f1 n2 f2) : Ext n0 f0 n2 f2 :=
  ⟨Nat.le_trans h.1 h2.1, fun k hk => (h2.2 k (Nat.lt_of_lt_of_le hk h.1)).trans (h.2 k hk)⟩
theorem upC_self (f : Mf) (k : Nat) (c : Cel) : upC f k c k = c := if_pos rfl
theorem upC_ne (f : Mf) {k j : Nat} (c : Cel) (h : j ≠ k) : upC f k c j = f j := if_neg h
theorem Ext.set {n0 n k : Nat} {f0 f : Mf} {c : Cel} (h : Ext n0 f0 n f) (hc : csz c = csz (f k)) : Ext n0 f0 n (upC f k c) :=
  ⟨h.1, fun j hj => by
    by_cases e : j = k
    · subst e; rw [upC_self, hc]; exact h.2 j hj
    · rw [upC_ne f c e]; exact h.2 j hj⟩
theorem Ext.push {n0 n : Nat} {f0 f : Mf} {c : Cel} (h : Ext n0 f0 n f) : Ext n0 f0 (n + 1) (upC f n c) :=
  ⟨Nat.le_succ_of_le h.1, fun j hj => by rw [upC_ne f c (by have := h.1; omega)]; exact h.2 j hj⟩
theorem msz_cong : ∀ {n : Nat} {f g : Mf}, (∀ k, k < n → csz (f k) = csz (g k)) → msz n f = msz n g
  | 0, _, _, _ => rfl
  | n + 1, f, g, h => by
    show msz n f + csz (f n) = msz n g + csz (g n)
    rw [msz_cong (fun k hk => h k (Nat.lt_succ_of_lt hk)), h n (Nat.lt_succ_self n)]
theorem msz_set {n k : Nat} {f : Mf} {c : Cel} (hc : csz c = csz (f k)) : msz n (upC f k c) = msz n f :=
  msz_cong fun j _ => by
    by_cases e : j = k
    · subst e; rw [upC_self, hc]
    · rw [upC_ne f c e]
theorem msz_push {n : Nat} {f : Mf} {c : Cel} : msz (n + 1) (upC f n c) = msz n f + csz c := by
  show msz n (upC f n c) + csz (upC f n c n) = _
  rw [upC_self, msz_cong (g := f) (fun k hk => by rw [upC_ne f c (Nat.ne_of_lt hk)])]
theorem msz_le {n0 : Nat} {f0 f : Mf} (h : ∀ k, k < n0 → csz (f k) = csz (f0 k)) : ∀ j, msz n0 f0 + msz j (fun k => f (n0 + k)) = msz (n0 + j) f
  | 0 => by show msz n0 f0 + 0 = msz n0 f; rw [Nat.add_zero]; exact msz_cong (fun k hk => (h k hk).symm)
  | j + 1 => by
    show msz n0 f0 + (msz j (fun k => f (n0 + k)) + csz (f (n0 + j))) = msz (n0 + j) f + csz (f (n0 + j))
    rw [← msz_le h j]; omega
/-- the sum of the slots of the cells made since -/
theorem msz_sum (G : Gam) {n z : Nat} {f : Mf} {H : Heap} (h : Rl G n z f H) (n0 : Nat) : ∀ j, n0 + j = n → ((H.toList.drop (G.s.heap.size + n0)).map (·.slots.size)).sum = msz j (fun k => f (n0 + k)) := by
  obtain ⟨hs, -, -, -, hc, -, -⟩ := h
  have key : ∀ j, n0 + j ≤ n → (((H.toList.drop (G.s.heap.size + n0)).take j).map (·.slots.size)).sum = msz j (fun k => f (n0 + k)) := by
    intro j
    induction j with
    | zero => intro _; simp [msz]
    | succ j ih =>
      intro hj
      obtain ⟨cell, h1, -, h3⟩ := hc (n0 + j) (by omega)
      have h1' : H.toList[G.s.heap.size + (n0 + j)]? = some cell := by rw [Array.getElem?_toList]; exact h1
      have e : (H.toList.drop (G.s.heap.size + n0))[j]? = some cell := by
        rw [List.getElem?_drop, Nat.add_assoc]; exact h1'
      rw [List.take_succ, e]
      show ((List.take j (List.drop (G.s.heap.size + n0) H.toList) ++ [cell]).map (·.slots.size)).sum = msz j (fun k => f (n0 + k)) + csz (f (n0 + j))
      rw [List.map_append, List.sum_append, ih (by omega)]
      simp [h3]
  intro j hj
  have hl : (H.toList.drop (G.s.heap.size + n0)).length = j := by
    rw [List.length_drop, Array.length_toList, hs]; omega
  rw [← key j (by omega), List.take_of_length_le (by omega)]
/-- all slots of the cells that were made before -/
def lall (G : Gam) (s : State) : List Loc := (List.range s.heap.size).flatMap fun a => if G.s.heap.size ≤ a then (List.range ((s.heap[a]?.map (·.slots.size)).getD 0)).map (fun i => ⟨a, i⟩) else []
theorem lall_base {G : Gam} {s : State} : ∀ q ∈ lall G s, G.s.heap.size ≤ q.base := by
  intro q hq
  obtain ⟨a, -, h⟩ := List.mem_flatMap.mp hq
  split at h
  · next hle =>
    obtain ⟨i, -, rfl⟩ := List.mem_map.mp h
    exact hle
  · cases h
theorem lall_in {G : Gam} {s : State} {a i : Nat} {c : Cell} (h : s.heap[a]? = some c) (hb : G.s.heap.size ≤ a) (hi : i < c.slots.size) : (⟨a, i⟩ : Loc) ∈ lall G s := by
  refine List.mem_flatMap.mpr ⟨a, List.mem_range.mpr (Array.getElem?_eq_some_iff.mp h).1, ?_⟩
  rw [if_pos hb, h]
  exact List.mem_map.mpr ⟨i, List.mem_range.mpr (by simpa using hi), rfl⟩
theorem W.tight {p : Program} {l : Launch} {e : Env} {R : Room} {s : State} {m : MethodId} {args : Array Value} {below : List Frame} {meth : Method} {c : Code} {H : Heap} {locs : List Loc} {cells slots : Nat} {Q : State → Prop} {g : JFrame}
    (G : Gam) {n0 z0 n z : Nat} {f0 f : Mf} (h0 : Rl G n0 z0 f0 s.heap) (h : Rl G n z f H) (hE : Ext n0 f0 n f)
    (k : W p l e R s m args below meth c H (lall G s) (n - n0) (z - z0) Q g) : W p l e R s m args below meth c H locs cells slots Q g := by
  intro T hT X
  refine k T hT { X with same := ?_ }
  obtain ⟨a1, a2, a3, a4, a5, a6⟩ := X.same
  subst hT
  have hsz0 : s.heap.size = G.s.heap.size + n0 := h0.1
  have hsz : T.heap.size = G.s.heap.size + n := h.1
  have hle := hE.1
  refine ⟨a1, a2, ?_, a4, ?_, ?_⟩
  · show T.heap.size ≤ _
    omega
  · show ((T.heap.toList.drop s.heap.size).map (·.slots.size)).sum ≤ z - z0
    rw [hsz0, msz_sum G h n0 (n - n0) (by omega)]
    have e2 := msz_le (f := f) (f0 := f0) hE.2 (n - n0)
    rw [show n0 + (n - n0) = n by omega] at e2
    rw [h.2.2.1, h0.2.2.1]
    omega
  · intro a cell hc
    obtain ⟨c', b1, b2, b3, b4⟩ := a6 a cell hc
    refine ⟨c', b1, b2, b3, fun i hi => ?_⟩
    by_cases hb : G.s.heap.size ≤ a
    · have hge : ¬ i < cell.slots.size := fun q => hi (lall_in hc hb q)
      rw [Array.getElem?_eq_none (by omega), Array.getElem?_eq_none (by omega)]
    · have e1 := h0.2.2.2.1 a (by omega)
      have e2 := h.2.2.2.1 a (by omega)
      have b1' : T.heap[a]? = some c' := b1
      rw [e2, ← e1, hc] at b1'
      cases b1'
      rfl
