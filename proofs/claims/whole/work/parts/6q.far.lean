-- FarFromAnybody: a new object
set_option maxRecDepth 100000
set_option maxHeartbeats 4000000
/-- the cells of a new object -/
def XI (f : Mf) : Prop := f 0 = cO 8 [.ref 1, .ref 12, .ref 16, .ref 20, .ref 22, .ref 24, .ref 28, .ref 30, .int 0, .int 0, .int (-1), .null, .null, .null] ∧ CRq S0s 10 1 f ∧ (f 10 = cO 3 [.int 0, .int 0, .ref 11] ∧ ∃ st, f 11 = cI 0 st) ∧
  (f 12 = cO 7 [.ref 1, .int 1, .ref 13, .ref 14, .ref 15, .int 1] ∧ f 13 = cQ 100 (fun _ => none) ∧ f 14 = cI 100 (fun _ => 0) ∧ f 15 = cI 100 (fun _ => 0)) ∧ (f 16 = cO 7 [.ref 1, .int 0, .ref 17, .ref 18, .ref 19, .int 1] ∧ f 17 = cQ 100 (fun _ => none) ∧ f 18 = cI 100 (fun _ => 0) ∧ f 19 = cI 100 (fun _ => 0)) ∧
  (f 20 = cO 2 [.ref 12, .int 0, .ref 1, .ref 21, .int 0, .int 0, .int 0, .int 0] ∧ f 21 = cI 8 (fun _ => 0)) ∧ (f 22 = cO 2 [.ref 16, .int 0, .ref 1, .ref 23, .int 0, .int 0, .int 0, .int 0] ∧ f 23 = cI 8 (fun _ => 0)) ∧
  (f 24 = cO 1 [.ref 1, .ref 20, .ref 25, .ref 26, .ref 27] ∧ f 25 = cI 10 (fun _ => 0) ∧ f 26 = cZ 10 (fun _ => 0) ∧ f 27 = cI 10 (fun _ => 0)) ∧ (f 28 = cO 6 [.int 0, .int 0, .int 0, .int 0, .int 0, .int 0, .int 0, .int 0, .int 0, .ref 1, .ref 20, .ref 24, .ref 29] ∧ f 29 = cI 610 (fun _ => 0)) ∧ f 30 = cB 400 (fun _ => 0)
section X8q
variable {G : Gam} {d z : Nat} {f f' : Mf}
theorem t8_init (hG : Ok G) (hd1 : 4 ≤ d) (hz : z + 2000 ≤ SCAP) (h : f 0 = cO 8 (new0 8)) : Tr G d 88 [.ref 0] 1 z f (fun v n' z' f' => v = none ∧ n' = 31 ∧ z' = z + 1890 ∧ XI f' ∧ ∀ x, 31 ≤ x → f' x = f x) := by
  have hCAP : CAP = 600000 := rfl
  have hSCAP : SCAP = 7302249 := rfl
  rw [show new0 8 = [.null, .null, .null, .null, .null, .null, .null, .null, .int 0, .int 0, .int 0, .null, .null, .null] from rfl] at h
  have k0 : clK 0 = 19 := rfl
  have k1' : clK 1 = 5 := rfl
  have k2 : clK 2 = 8 := rfl
  have k6 : clK 6 = 13 := rfl
  have k7 : clK 7 = 6 := rfl
  refine Tr.of2 (ls0 := [.ref 0]) hG mo_X8_init (Nat.le_of_ble_eq_true rfl) rfl ?_
  intro X hi hd hXn hXz hXf hQ
  refine wp_sound (by rw [hi]; exact ok_X8_init) (hd := [12, 28, 44, 63, 82, 101, 124]) 400 _ _ _ _ _ _ ?_
  simp only [wp, stp, List.mem_cons, List.not_mem_nil, Nat.reduceEqDiff, or_false, or_self, false_or, or_true, true_or, Nat.reduceAdd, ↓reduceIte, List.getElem?_cons_zero, List.getElem?_cons_succ, nthV, List.set_cons_zero, List.set_cons_succ, noL, popA, catS, Value.category, List.length_cons, List.length_nil, Nat.reduceLT, Nat.reduceLeDiff, true_and, and_true, one0, zer1, imp_t, imp_f, ofN_nI, sdead, f20, f21, not_true_eq_false, upC_ap, upC_upC, retC, fitC, isRefT, Option.toList_some, Option.toList_none, List.cons_append, List.nil_append, Nat.lt_add_one, Nat.zero_lt_succ, Nat.le_refl, Nat.add_zero, Nat.zero_add, Nat.one_ne_zero, Nat.zero_ne_one, Nat.lt_irrefl, List.length_set, fa_X8_init, hi, hd, hQ, mr_X8_init, h, k0]
  refine ⟨by omega, by omega, by omega, by omega, _, t_campInit hG (by omega) (p := 1) (by omega) (by omega) (by first | rw [upC_self] | rfl), ?_⟩
  rintro v n1 z1 f1 ⟨rfl, rfl, rfl, c1, c2, c3, c4⟩
  have o1 := (c4 0 (by omega)).trans ((upC_ne _ _ (by omega)).trans h)
  have k1 := c1.1
  refine wp_sound (by rw [hi]; exact ok_X8_init) (hd := [12, 28, 44, 63, 82, 101, 124]) 400 _ _ _ _ _ _ ?_
  simp only [wp, stp, List.mem_cons, List.not_mem_nil, Nat.reduceEqDiff, or_false, or_self, false_or, or_true, true_or, Nat.reduceAdd, ↓reduceIte, List.getElem?_cons_zero, List.getElem?_cons_succ, nthV, List.set_cons_zero, List.set_cons_succ, noL, popA, catS, Value.category, List.length_cons, List.length_nil, Nat.reduceLT, Nat.reduceLeDiff, true_and, and_true, one0, zer1, imp_t, imp_f, ofN_nI, sdead, f20, f21, not_true_eq_false, upC_ap, upC_upC, retC, fitC, isRefT, Option.toList_some, Option.toList_none, List.cons_append, List.nil_append, Nat.lt_add_one, Nat.zero_lt_succ, Nat.le_refl, Nat.add_zero, Nat.zero_add, Nat.one_ne_zero, Nat.zero_ne_one, Nat.lt_irrefl, List.length_set, fa_X8_init, hi, hd, hQ, mr_X8_init, o1, k1, k7]
  refine ⟨by omega, by omega, by omega, _, t_waysInit hG (by omega) (p := 12) (by omega) (by omega) (upC_self _ _ _) (by rw [upC_ne _ _ (by omega), upC_ne _ _ (by omega)]; exact k1) (Or.inr rfl) (by omega), ?_⟩
  rintro v n2 z2 f2 ⟨rfl, rfl, rfl, d1, d2, d3, d4, d5⟩
  have e2 : ∀ x, ¬ x = 0 → ¬ (12 ≤ x ∧ x ≤ 15) → f2 x = f1 x := fun x a b => by rw [d5 x b, upC_ne _ _ (by omega), upC_ne _ _ a]
  have o2 := (d5 0 (by omega)).trans ((upC_ne _ _ (by omega)).trans (upC_self _ _ _))
  have k1 := (e2 1 (by omega) (by omega)).trans k1
  refine wp_sound (by rw [hi]; exact ok_X8_init) (hd := [12, 28, 44, 63, 82, 101, 124]) 400 _ _ _ _ _ _ ?_
  simp only [wp, stp, List.mem_cons, List.not_mem_nil, Nat.reduceEqDiff, or_false, or_self, false_or, or_true, true_or, Nat.reduceAdd, ↓reduceIte, List.getElem?_cons_zero, List.getElem?_cons_succ, nthV, List.set_cons_zero, List.set_cons_succ, noL, popA, catS, Value.category, List.length_cons, List.length_nil, Nat.reduceLT, Nat.reduceLeDiff, true_and, and_true, one0, zer1, imp_t, imp_f, ofN_nI, sdead, f20, f21, not_true_eq_false, upC_ap, upC_upC, retC, fitC, isRefT, Option.toList_some, Option.toList_none, List.cons_append, List.nil_append, Nat.lt_add_one, Nat.zero_lt_succ, Nat.le_refl, Nat.add_zero, Nat.zero_add, Nat.one_ne_zero, Nat.zero_ne_one, Nat.lt_irrefl, List.length_set, fa_X8_init, hi, hd, hQ, mr_X8_init, o2, k1, k7]
  refine ⟨by omega, by omega, by omega, _, t_waysInit hG (by omega) (p := 16) (by omega) (by omega) (upC_self _ _ _) (by rw [upC_ne _ _ (by omega), upC_ne _ _ (by omega)]; exact k1) (Or.inl rfl) (by omega), ?_⟩
  rintro v n3 z3 f3 ⟨rfl, rfl, rfl, b1, b2, b3, b4, b5⟩
  have e3 : ∀ x, ¬ x = 0 → ¬ (16 ≤ x ∧ x ≤ 19) → f3 x = f2 x := fun x a b => by rw [b5 x b, upC_ne _ _ (by omega), upC_ne _ _ a]
  have o3 := (b5 0 (by omega)).trans ((upC_ne _ _ (by omega)).trans (upC_self _ _ _))
  have k1 := (e3 1 (by omega) (by omega)).trans k1
  have d1 := (e3 12 (by omega) (by omega)).trans d1
  refine wp_sound (by rw [hi]; exact ok_X8_init) (hd := [12, 28, 44, 63, 82, 101, 124]) 400 _ _ _ _ _ _ ?_
  simp only [wp, stp, List.mem_cons, List.not_mem_nil, Nat.reduceEqDiff, or_false, or_self, false_or, or_true, true_or, Nat.reduceAdd, ↓reduceIte, List.getElem?_cons_zero, List.getElem?_cons_succ, nthV, List.set_cons_zero, List.set_cons_succ, noL, popA, catS, Value.category, List.length_cons, List.length_nil, Nat.reduceLT, Nat.reduceLeDiff, true_and, and_true, one0, zer1, imp_t, imp_f, ofN_nI, sdead, f20, f21, not_true_eq_false, upC_ap, upC_upC, retC, fitC, isRefT, Option.toList_some, Option.toList_none, List.cons_append, List.nil_append, Nat.lt_add_one, Nat.zero_lt_succ, Nat.le_refl, Nat.add_zero, Nat.zero_add, Nat.one_ne_zero, Nat.zero_ne_one, Nat.lt_irrefl, List.length_set, fa_X8_init, hi, hd, hQ, mr_X8_init, o3, k1, d1, k2]
  refine ⟨by omega, by omega, by omega, _, t_kingInit hG (by omega) (p := 20) (w := 12) (by omega) (by omega) (upC_self _ _ _) (by rw [upC_ne _ _ (by omega), upC_ne _ _ (by omega)]; exact k1) (by rw [upC_ne _ _ (by omega), upC_ne _ _ (by omega)]; exact d1) (by omega), ?_⟩
  rintro v n4 z4 f4 ⟨rfl, rfl, rfl, g1, g2, g3⟩
  have e4 : ∀ x, ¬ x = 0 → ¬ (20 ≤ x ∧ x ≤ 21) → f4 x = f3 x := fun x a b => by rw [g3 x b, upC_ne _ _ (by omega), upC_ne _ _ a]
  have o4 := (g3 0 (by omega)).trans ((upC_ne _ _ (by omega)).trans (upC_self _ _ _))
  have k1 := (e4 1 (by omega) (by omega)).trans k1
  have b1 := (e4 16 (by omega) (by omega)).trans b1
  refine wp_sound (by rw [hi]; exact ok_X8_init) (hd := [12, 28, 44, 63, 82, 101, 124]) 400 _ _ _ _ _ _ ?_
  simp only [wp, stp, List.mem_cons, List.not_mem_nil, Nat.reduceEqDiff, or_false, or_self, false_or, or_true, true_or, Nat.reduceAdd, ↓reduceIte, List.getElem?_cons_zero, List.getElem?_cons_succ, nthV, List.set_cons_zero, List.set_cons_succ, noL, popA, catS, Value.category, List.length_cons, List.length_nil, Nat.reduceLT, Nat.reduceLeDiff, true_and, and_true, one0, zer1, imp_t, imp_f, ofN_nI, sdead, f20, f21, not_true_eq_false, upC_ap, upC_upC, retC, fitC, isRefT, Option.toList_some, Option.toList_none, List.cons_append, List.nil_append, Nat.lt_add_one, Nat.zero_lt_succ, Nat.le_refl, Nat.add_zero, Nat.zero_add, Nat.one_ne_zero, Nat.zero_ne_one, Nat.lt_irrefl, List.length_set, fa_X8_init, hi, hd, hQ, mr_X8_init, o4, k1, b1, k2]
  refine ⟨by omega, by omega, by omega, _, t_kingInit hG (by omega) (p := 22) (w := 16) (by omega) (by omega) (upC_self _ _ _) (by rw [upC_ne _ _ (by omega), upC_ne _ _ (by omega)]; exact k1) (by rw [upC_ne _ _ (by omega), upC_ne _ _ (by omega)]; exact b1) (by omega), ?_⟩
  rintro v n5 z5 f5 ⟨rfl, rfl, rfl, m1, m2, m3⟩
  have e5 : ∀ x, ¬ x = 0 → ¬ (22 ≤ x ∧ x ≤ 23) → f5 x = f4 x := fun x a b => by rw [m3 x b, upC_ne _ _ (by omega), upC_ne _ _ a]
  have o5 := (m3 0 (by omega)).trans ((upC_ne _ _ (by omega)).trans (upC_self _ _ _))
  have k1 := (e5 1 (by omega) (by omega)).trans k1
  have g1 := (e5 20 (by omega) (by omega)).trans g1
  refine wp_sound (by rw [hi]; exact ok_X8_init) (hd := [12, 28, 44, 63, 82, 101, 124]) 400 _ _ _ _ _ _ ?_
  simp only [wp, stp, List.mem_cons, List.not_mem_nil, Nat.reduceEqDiff, or_false, or_self, false_or, or_true, true_or, Nat.reduceAdd, ↓reduceIte, List.getElem?_cons_zero, List.getElem?_cons_succ, nthV, List.set_cons_zero, List.set_cons_succ, noL, popA, catS, Value.category, List.length_cons, List.length_nil, Nat.reduceLT, Nat.reduceLeDiff, true_and, and_true, one0, zer1, imp_t, imp_f, ofN_nI, sdead, f20, f21, not_true_eq_false, upC_ap, upC_upC, retC, fitC, isRefT, Option.toList_some, Option.toList_none, List.cons_append, List.nil_append, Nat.lt_add_one, Nat.zero_lt_succ, Nat.le_refl, Nat.add_zero, Nat.zero_add, Nat.one_ne_zero, Nat.zero_ne_one, Nat.lt_irrefl, List.length_set, fa_X8_init, hi, hd, hQ, mr_X8_init, o5, k1, g1, k1']
  refine ⟨by omega, by omega, by omega, _, t_daysInit hG (by omega) (p := 24) (k := 20) (by omega) (by omega) (upC_self _ _ _) (by rw [upC_ne _ _ (by omega), upC_ne _ _ (by omega)]; exact k1) (by rw [upC_ne _ _ (by omega), upC_ne _ _ (by omega)]; exact g1) (by omega), ?_⟩
  rintro v n6 z6 f6 ⟨rfl, rfl, rfl, q1, q2, q3, q4, q5⟩
  have e6 : ∀ x, ¬ x = 0 → ¬ (24 ≤ x ∧ x ≤ 27) → f6 x = f5 x := fun x a b => by rw [q5 x b, upC_ne _ _ (by omega), upC_ne _ _ a]
  have o6 := (q5 0 (by omega)).trans ((upC_ne _ _ (by omega)).trans (upC_self _ _ _))
  have k1 := (e6 1 (by omega) (by omega)).trans k1
  have g1 := (e6 20 (by omega) (by omega)).trans g1
  refine wp_sound (by rw [hi]; exact ok_X8_init) (hd := [12, 28, 44, 63, 82, 101, 124]) 400 _ _ _ _ _ _ ?_
  simp only [wp, stp, List.mem_cons, List.not_mem_nil, Nat.reduceEqDiff, or_false, or_self, false_or, or_true, true_or, Nat.reduceAdd, ↓reduceIte, List.getElem?_cons_zero, List.getElem?_cons_succ, nthV, List.set_cons_zero, List.set_cons_succ, noL, popA, catS, Value.category, List.length_cons, List.length_nil, Nat.reduceLT, Nat.reduceLeDiff, true_and, and_true, one0, zer1, imp_t, imp_f, ofN_nI, sdead, f20, f21, not_true_eq_false, upC_ap, upC_upC, retC, fitC, isRefT, Option.toList_some, Option.toList_none, List.cons_append, List.nil_append, Nat.lt_add_one, Nat.zero_lt_succ, Nat.le_refl, Nat.add_zero, Nat.zero_add, Nat.one_ne_zero, Nat.zero_ne_one, Nat.lt_irrefl, List.length_set, fa_X8_init, hi, hd, hQ, mr_X8_init, o6, k1, g1, q1, k6]
  refine ⟨by omega, by omega, by omega, _, t_thoughtInit hG (by omega) (p := 28) (k := 20) (y := 24) (by omega) (by omega) (upC_self _ _ _) (by rw [upC_ne _ _ (by omega), upC_ne _ _ (by omega)]; exact k1) (by rw [upC_ne _ _ (by omega), upC_ne _ _ (by omega)]; exact g1) (by rw [upC_ne _ _ (by omega), upC_ne _ _ (by omega)]; exact q1) (by omega), ?_⟩
  rintro v n7 z7 f7 ⟨rfl, rfl, rfl, r1, r2, r3⟩
  have e7 : ∀ x, ¬ x = 0 → ¬ (28 ≤ x ∧ x ≤ 29) → f7 x = f6 x := fun x a b => by rw [r3 x b, upC_ne _ _ (by omega), upC_ne _ _ a]
  have o7 := (r3 0 (by omega)).trans ((upC_ne _ _ (by omega)).trans (upC_self _ _ _))
  have c400 : (400 : Int32).toNatClampNeg = 400 := rfl
  have c400n : ((400 : Int32) < 0) = False := eq_false (by decide)
  refine wp_sound (by rw [hi]; exact ok_X8_init) (hd := [12, 28, 44, 63, 82, 101, 124]) 400 _ _ _ _ _ _ ?_
  simp only [wp, stp, List.mem_cons, List.not_mem_nil, Nat.reduceEqDiff, or_false, or_self, false_or, or_true, true_or, Nat.reduceAdd, ↓reduceIte, List.getElem?_cons_zero, List.getElem?_cons_succ, nthV, List.set_cons_zero, List.set_cons_succ, noL, popA, catS, Value.category, List.length_cons, List.length_nil, Nat.reduceLT, Nat.reduceLeDiff, true_and, and_true, one0, zer1, imp_t, imp_f, ofN_nI, sdead, f20, f21, not_true_eq_false, upC_ap, upC_upC, retC, fitC, isRefT, Option.toList_some, Option.toList_none, List.cons_append, List.nil_append, Nat.lt_add_one, Nat.zero_lt_succ, Nat.le_refl, Nat.add_zero, Nat.zero_add, Nat.one_ne_zero, Nat.zero_ne_one, Nat.lt_irrefl, List.length_set, fa_X8_init, hi, hd, hQ, mr_X8_init, o7, c400, c400n, not_false_eq_true]
  have low : ∀ c0 c1 c2, ∀ x, ¬ x = 0 → ¬ x = 30 → upC (upC (upC f7 0 c0) 30 c1) 0 c2 x = f7 x := fun c0 c1 c2 x a b => by rw [upC_ne _ _ a, upC_ne _ _ b, upC_ne _ _ a]
  refine ⟨by omega, by omega, ⟨?_, ?_, ⟨?_, ?_⟩, ⟨?_, ?_, ?_, ?_⟩, ⟨?_, ?_, ?_, ?_⟩, ⟨?_, ?_⟩, ⟨?_, ?_⟩, ⟨?_, ?_, ?_, ?_⟩, ⟨?_, ?_⟩, ?_⟩, fun x hx => ?_⟩
  · exact upC_self _ _ _
  · exact c1.cong (fun x a b => by rw [low _ _ _ x (by omega) (by omega), e7 x (by omega) (by omega), e6 x (by omega) (by omega), e5 x (by omega) (by omega), e4 x (by omega) (by omega), e3 x (by omega) (by omega), e2 x (by omega) (by omega)])
  · rw [low _ _ _ 10 (by omega) (by omega), e7 10 (by omega) (by omega), e6 10 (by omega) (by omega), e5 10 (by omega) (by omega), e4 10 (by omega) (by omega), e3 10 (by omega) (by omega), e2 10 (by omega) (by omega)]; exact c2
  · rw [low _ _ _ 11 (by omega) (by omega), e7 11 (by omega) (by omega), e6 11 (by omega) (by omega), e5 11 (by omega) (by omega), e4 11 (by omega) (by omega), e3 11 (by omega) (by omega), e2 11 (by omega) (by omega)]; exact c3
  · rw [low _ _ _ 12 (by omega) (by omega), e7 12 (by omega) (by omega), e6 12 (by omega) (by omega), e5 12 (by omega) (by omega), e4 12 (by omega) (by omega)]; exact d1
  · rw [low _ _ _ 13 (by omega) (by omega), e7 13 (by omega) (by omega), e6 13 (by omega) (by omega), e5 13 (by omega) (by omega), e4 13 (by omega) (by omega), e3 13 (by omega) (by omega)]; exact d2
  · rw [low _ _ _ 14 (by omega) (by omega), e7 14 (by omega) (by omega), e6 14 (by omega) (by omega), e5 14 (by omega) (by omega), e4 14 (by omega) (by omega), e3 14 (by omega) (by omega)]; exact d3
  · rw [low _ _ _ 15 (by omega) (by omega), e7 15 (by omega) (by omega), e6 15 (by omega) (by omega), e5 15 (by omega) (by omega), e4 15 (by omega) (by omega), e3 15 (by omega) (by omega)]; exact d4
  · rw [low _ _ _ 16 (by omega) (by omega), e7 16 (by omega) (by omega), e6 16 (by omega) (by omega), e5 16 (by omega) (by omega)]; exact b1
  · rw [low _ _ _ 17 (by omega) (by omega), e7 17 (by omega) (by omega), e6 17 (by omega) (by omega), e5 17 (by omega) (by omega), e4 17 (by omega) (by omega)]; exact b2
  · rw [low _ _ _ 18 (by omega) (by omega), e7 18 (by omega) (by omega), e6 18 (by omega) (by omega), e5 18 (by omega) (by omega), e4 18 (by omega) (by omega)]; exact b3
  · rw [low _ _ _ 19 (by omega) (by omega), e7 19 (by omega) (by omega), e6 19 (by omega) (by omega), e5 19 (by omega) (by omega), e4 19 (by omega) (by omega)]; exact b4
  · rw [low _ _ _ 20 (by omega) (by omega), e7 20 (by omega) (by omega)]; exact g1
  · rw [low _ _ _ 21 (by omega) (by omega), e7 21 (by omega) (by omega), e6 21 (by omega) (by omega), e5 21 (by omega) (by omega)]; exact g2
  · rw [low _ _ _ 22 (by omega) (by omega), e7 22 (by omega) (by omega), e6 22 (by omega) (by omega)]; exact m1
  · rw [low _ _ _ 23 (by omega) (by omega), e7 23 (by omega) (by omega), e6 23 (by omega) (by omega)]; exact m2
  · rw [low _ _ _ 24 (by omega) (by omega), e7 24 (by omega) (by omega)]; exact q1
  · rw [low _ _ _ 25 (by omega) (by omega), e7 25 (by omega) (by omega)]; exact q2
  · rw [low _ _ _ 26 (by omega) (by omega), e7 26 (by omega) (by omega)]; exact q3
  · rw [low _ _ _ 27 (by omega) (by omega), e7 27 (by omega) (by omega)]; exact q4
  · rw [low _ _ _ 28 (by omega) (by omega)]; exact r1
  · rw [low _ _ _ 29 (by omega) (by omega)]; exact r2
  · rw [upC_ne _ _ (by omega), upC_self]
  · rw [if_neg (by omega), if_neg (by omega), if_neg (by omega), e7 x (by omega) (by omega), e6 x (by omega) (by omega), e5 x (by omega) (by omega), e4 x (by omega) (by omega), e3 x (by omega) (by omega), e2 x (by omega) (by omega), c4 x (by omega), upC_ne _ _ (by omega)]
end X8q
