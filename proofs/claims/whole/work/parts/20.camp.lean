-- THE STATE of the plain, the tents and the men: S 0 the numbers (in the reference's order), S 1 the yards, S 2 .. S 7 the tents' places, families, modes, coins, moves, told pays, S 8 the men's places
abbrev Sta : Type := Nat → Nat → Int32
def tn (S : Sta) : Nat := (S 0 3).toNatClampNeg
def mn (S : Sta) : Nat := (S 0 4).toNatClampNeg
/-- the class's camp at place 1 -/
def CR (S : Sta) (lp : Nat) (f : Mf) : Prop :=
  f 1 = cO 0 [.int (S 0 0), .int (S 0 1), .int (S 0 2), .ref 2, .int (S 0 3), .ref 3, .ref 4, .ref 5, .ref 6, .ref 7, .ref 8, .int (S 0 4), .ref 9, .int (S 0 5), .int (S 0 6), .int (S 0 7), .int (S 0 8), .int (S 0 9), .ref lp] ∧
  ∃ kd ya fa mo co mv tp my : Nat → Int32, f 2 = cI 100 kd ∧ (∀ i, i < 100 → kd i = S 1 i) ∧ f 3 = cI 10 ya ∧ (∀ t, t < tn S → ya t = S 2 t) ∧ f 4 = cI 10 fa ∧ (∀ t, t < tn S → fa t = S 3 t) ∧ f 5 = cI 10 mo ∧ (∀ t, t < tn S → mo t = S 4 t) ∧ f 6 = cI 10 co ∧ (∀ t, t < tn S → co t = S 5 t) ∧ f 7 = cI 10 mv ∧ (∀ t, t < tn S → mv t = S 6 t) ∧ f 8 = cI 10 tp ∧ (∀ t, t < tn S → tp t = S 7 t) ∧ f 9 = cI 6 my ∧ (∀ t, t < mn S → my t = S 8 t)
/-- bounds of the numbers -/
def Bd (S : Sta) : Prop := S 0 3 = nI (tn S) ∧ tn S ≤ 10 ∧ S 0 4 = nI (mn S) ∧ mn S ≤ 5
/-- the first of n places that holds, or -1 -/
def first1 (p : Nat → Prop) [DecidablePred p] : Nat → Nat → Int32
  | 0, _ => -1
  | n + 1, i => if p i then nI i else first1 p n (i + 1)
def tentAtS (S : Sta) (c : Int32) : Int32 := first1 (fun t => S 2 t = c) (tn S) 0
abbrev Same (r : Value) (n z : Nat) (f : Mf) : Po := fun v n' z' f' => v = some r ∧ n' = n ∧ z' = z ∧ f' = f
set_option maxRecDepth 100000 in
set_option maxHeartbeats 4000000 in
theorem t_tentAt {G : Gam} (hG : Ok G) {d n z lp : Nat} {f : Mf} {S : Sta} (hC : CR S lp f) (hB : Bd S) (c : Int32) : Tr G d 18 [.ref 1, .int c] n z f (Same (.int (tentAtS S c)) n z f) := by
  obtain ⟨h1, kd, ya, fa, mo, co, mv, tp, my, h2, h2', h3, h3', -⟩ := hC
  obtain ⟨b1, b2, -⟩ := hB
  refine Tr.of2 (ls0 := [.ref 1, .int c, dead]) hG mo_X0_tentAt (Nat.le_of_ble_eq_true rfl) rfl ?_
  intro X hi hd hn hz hf hQ
  have loop : ∀ k i, i + k = tn S → tentAtS S c = first1 (fun t => S 2 t = c) k i → V G X 2 [.ref 1, .int c, .int (nI i)] [] n z f := by
    intro k
    induction k with
    | zero =>
      intro i hk he
      refine wp_sound (by rw [hi]; exact ok_X0_tentAt) (hd := [2]) 400 _ _ _ _ _ _ ?_
      simp only [wp, stp, List.mem_cons, List.not_mem_nil, Nat.reduceEqDiff, or_false, or_self, false_or, Nat.reduceAdd, ↓reduceIte, List.getElem?_cons_zero, List.getElem?_cons_succ, nthV, List.set_cons_zero, List.set_cons_succ, noL, popA, catS, Value.category, List.length_cons, List.length_nil, Nat.reduceLT, Nat.reduceLeDiff, true_and, and_true, upC, retC, fitC, isRefT, Option.toList_some, Option.toList_none, List.cons_append, List.nil_append, Nat.lt_add_one, Nat.zero_lt_succ, Nat.le_refl, Nat.add_zero, Nat.zero_add, Nat.one_ne_zero, Nat.zero_ne_one, Nat.lt_irrefl, List.length_set, fa_X0_tentAt, hi, hd, hQ, mr_X0_tentAt, h1, h3]
      trace_state
      sorry
    | succ k ih =>
      intro i hk he
      refine wp_sound (by rw [hi]; exact ok_X0_tentAt) (hd := [2]) 400 _ _ _ _ _ _ ?_
      simp only [wp, stp, List.mem_cons, List.not_mem_nil, Nat.reduceEqDiff, or_false, or_self, false_or, Nat.reduceAdd, ↓reduceIte, List.getElem?_cons_zero, List.getElem?_cons_succ, nthV, List.set_cons_zero, List.set_cons_succ, noL, popA, catS, Value.category, List.length_cons, List.length_nil, Nat.reduceLT, Nat.reduceLeDiff, true_and, and_true, upC, retC, fitC, isRefT, Option.toList_some, Option.toList_none, List.cons_append, List.nil_append, Nat.lt_add_one, Nat.zero_lt_succ, Nat.le_refl, Nat.add_zero, Nat.zero_add, Nat.one_ne_zero, Nat.zero_ne_one, Nat.lt_irrefl, List.length_set, fa_X0_tentAt, hi, hd, hQ, mr_X0_tentAt, h1, h3]
      trace_state
      sorry
  refine wp_sound (by rw [hi]; exact ok_X0_tentAt) (hd := [2]) 400 _ _ _ _ _ _ ?_
  simp only [wp, stp, List.mem_cons, List.not_mem_nil, Nat.reduceEqDiff, or_false, or_self, false_or, Nat.reduceAdd, ↓reduceIte, List.getElem?_cons_zero, List.getElem?_cons_succ, nthV, List.set_cons_zero, List.set_cons_succ, noL, popA, catS, Value.category, List.length_cons, List.length_nil, Nat.reduceLT, Nat.reduceLeDiff, true_and, and_true, upC, retC, fitC, isRefT, Option.toList_some, Option.toList_none, List.cons_append, List.nil_append, Nat.lt_add_one, Nat.zero_lt_succ, Nat.le_refl, Nat.add_zero, Nat.zero_add, Nat.one_ne_zero, Nat.zero_ne_one, Nat.lt_irrefl, List.length_set, fa_X0_tentAt, hi, hd, hQ, mr_X0_tentAt, h1, h3]
  trace_state
  sorry
