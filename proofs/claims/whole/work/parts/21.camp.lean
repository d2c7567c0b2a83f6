-- Camp: the other reads
set_option maxRecDepth 100000
set_option maxHeartbeats 4000000
section Camp2
variable {G : Gam} {d n z lp : Nat} {f : Mf} {S : Sta}
abbrev tS (S : Sta) (t : Int32) : Prop := ¬ t < 0 ∧ ¬ S 0 3 ≤ t
theorem t_isTent (hG : Ok G) (hC : CR S lp f) (t : Int32) : Tr G d 17 [.ref 1, .int t] n z f (Same (.int (bI (tS S t))) n z f) := by
  obtain ⟨h1, -⟩ := hC
  refine Tr.of2 (ls0 := [.ref 1, .int t]) hG mo_X0_isTent (Nat.le_of_ble_eq_true rfl) rfl ?_
  intro X hi hd hXn hXz hXf hQ
  refine wp_sound (by rw [hi]; exact ok_X0_isTent) (hd := []) 400 _ _ _ _ _ _ ?_
  simp only [wp, stp, List.mem_cons, List.not_mem_nil, Nat.reduceEqDiff, or_false, or_self, false_or, or_true, true_or, Nat.reduceAdd, ↓reduceIte, List.getElem?_cons_zero, List.getElem?_cons_succ, nthV, List.set_cons_zero, List.set_cons_succ, noL, popA, catS, Value.category, List.length_cons, List.length_nil, Nat.reduceLT, Nat.reduceLeDiff, true_and, and_true, one0, zer1, imp_t, imp_f, ofN_nI, sdead, f20, f21, not_true_eq_false, upC_ap, retC, fitC, isRefT, Option.toList_some, Option.toList_none, List.cons_append, List.nil_append, Nat.lt_add_one, Nat.zero_lt_succ, Nat.le_refl, Nat.add_zero, Nat.zero_add, Nat.one_ne_zero, Nat.zero_ne_one, Nat.lt_irrefl, List.length_set, fa_X0_isTent, hi, hd, hQ, mr_X0_isTent, h1]
  exact ⟨fun h => Same.i (bI_f (fun q => q.1 h)).symm, fun ha => ⟨fun h => Same.i (bI_f (fun q => q.2 h)).symm, fun hb => Same.i (bI_t ⟨ha, hb⟩).symm⟩⟩
theorem t_canBeGoneOver (hG : Ok G) (hd1 : 1 ≤ d) (hC : CR S lp f) (c : Int32) : Tr G d 15 [.ref 1, .int c] n z f (Same (.int (bI (inS S c ∧ ¬ S 1 c.toNatClampNeg = 1))) n z f) := by
  have hC' := hC
  obtain ⟨h1, kd, ya, fa, mo, co, mv, tp, my, h2, h2', -⟩ := hC
  refine Tr.of2 (ls0 := [.ref 1, .int c]) hG mo_X0_canBeGoneOver (Nat.le_of_ble_eq_true rfl) rfl ?_
  intro X hi hd hXn hXz hXf hQ
  refine wp_sound (by rw [hi]; exact ok_X0_canBeGoneOver) (hd := [5]) 400 _ _ _ _ _ _ ?_
  simp only [wp, stp, List.mem_cons, List.not_mem_nil, Nat.reduceEqDiff, or_false, or_self, false_or, or_true, true_or, Nat.reduceAdd, ↓reduceIte, List.getElem?_cons_zero, List.getElem?_cons_succ, nthV, List.set_cons_zero, List.set_cons_succ, noL, popA, catS, Value.category, List.length_cons, List.length_nil, Nat.reduceLT, Nat.reduceLeDiff, true_and, and_true, one0, zer1, imp_t, imp_f, ofN_nI, sdead, f20, f21, not_true_eq_false, upC_ap, retC, fitC, isRefT, Option.toList_some, Option.toList_none, List.cons_append, List.nil_append, Nat.lt_add_one, Nat.zero_lt_succ, Nat.le_refl, Nat.add_zero, Nat.zero_add, Nat.one_ne_zero, Nat.zero_ne_one, Nat.lt_irrefl, List.length_set, fa_X0_canBeGoneOver, hi, hd, hQ, mr_X0_canBeGoneOver, h1]
  refine ⟨hd1, _, t_inside hG hC' c, ?_⟩
  rintro v n' z' f' ⟨rfl, rfl, rfl, rfl⟩
  refine wp_sound (by rw [hi]; exact ok_X0_canBeGoneOver) (hd := [5]) 400 _ _ _ _ _ _ ?_
  simp only [wp, stp, List.mem_cons, List.not_mem_nil, Nat.reduceEqDiff, or_false, or_self, false_or, or_true, true_or, Nat.reduceAdd, ↓reduceIte, List.getElem?_cons_zero, List.getElem?_cons_succ, nthV, List.set_cons_zero, List.set_cons_succ, noL, popA, catS, Value.category, List.length_cons, List.length_nil, Nat.reduceLT, Nat.reduceLeDiff, true_and, and_true, one0, zer1, imp_t, imp_f, ofN_nI, sdead, f20, f21, not_true_eq_false, upC_ap, retC, fitC, isRefT, Option.toList_some, Option.toList_none, List.cons_append, List.nil_append, Nat.lt_add_one, Nat.zero_lt_succ, Nat.le_refl, Nat.add_zero, Nat.zero_add, Nat.one_ne_zero, Nat.zero_ne_one, Nat.lt_irrefl, List.length_set, fa_X0_canBeGoneOver, hi, hd, hQ, mr_X0_canBeGoneOver, h1, h2, bI_0]
  refine ⟨fun h => Same.i (bI_f (fun q => h q.1)).symm, fun h => ?_⟩
  have h := Decidable.not_not.mp h
  obtain ⟨q1, q2⟩ := inS_100 h
  rw [h2' _ q2]
  exact ⟨q1, fun h4 => Same.i (bI_f (fun q => q.2 h4)).symm, fun h4 => Same.i (bI_t ⟨h, h4⟩).symm⟩
def cnt1 (p : Nat → Prop) [DecidablePred p] : Nat → Nat
  | 0 => 0
  | k + 1 => cnt1 p k + if p k then 1 else 0
theorem cnt1_le (p : Nat → Prop) [DecidablePred p] : ∀ k, cnt1 p k ≤ k
  | 0 => Nat.le_refl _
  | k + 1 => by have := cnt1_le p k; rw [cnt1]; split <;> omega
theorem t_grassCount (hG : Ok G) (hd1 : 2 ≤ d) (hC : CR S lp f) : Tr G d 16 [.ref 1] n z f (Same (.int (nI (cnt1 (fun k => grS S (nI k)) 100))) n z f) := by
  have hC' := hC
  obtain ⟨h1, kd, ya, fa, mo, co, mv, tp, my, h2, h2', -⟩ := hC
  refine Tr.of2 (ls0 := [.ref 1, dead, dead]) hG mo_X0_grassCount (Nat.le_of_ble_eq_true rfl) rfl ?_
  intro X hi hd hXn hXz hXf hQ
  have loop : ∀ k i, i + k = 100 → V G X 4 [.ref 1, .int (nI (cnt1 (fun k => grS S (nI k)) i)), .int (nI i)] [] n z f := by
    intro k
    induction k with
    | zero =>
      intro i hk
      refine wp_sound (by rw [hi]; exact ok_X0_grassCount) (hd := [4, 15]) 400 _ _ _ _ _ _ ?_
      simp only [wp, stp, List.mem_cons, List.not_mem_nil, Nat.reduceEqDiff, or_false, or_self, false_or, or_true, true_or, Nat.reduceAdd, ↓reduceIte, List.getElem?_cons_zero, List.getElem?_cons_succ, nthV, List.set_cons_zero, List.set_cons_succ, noL, popA, catS, Value.category, List.length_cons, List.length_nil, Nat.reduceLT, Nat.reduceLeDiff, true_and, and_true, one0, zer1, imp_t, imp_f, ofN_nI, sdead, f20, f21, not_true_eq_false, upC_ap, retC, fitC, isRefT, Option.toList_some, Option.toList_none, List.cons_append, List.nil_append, Nat.lt_add_one, Nat.zero_lt_succ, Nat.le_refl, Nat.add_zero, Nat.zero_add, Nat.one_ne_zero, Nat.zero_ne_one, Nat.lt_irrefl, List.length_set, fa_X0_grassCount, hi, hd, hQ, mr_X0_grassCount, h1]
      try simp only [m1f]
      try simp (disch := omega) only [nI_leI, nI_ltI, nI_eq, nI_clamp, vin_nI, nI_1, fa_lit, nI_add, nI_rm3, nI_rm2, pk_rem, pk_mul, pk_sub, pk_div, nI_eM, nI_Me, nI_pM, nI_pMz, nI_pM0, M1_lt, M1_le, nI_ltM, nI_leM, i8_nI, true_and, and_true, false_implies, true_implies, not_false_eq_true, not_true_eq_false, ne_eq, implies_true, Nat.not_lt_zero, Nat.zero_le]
      try simp only [m1u]
      have : i = 100 := by omega
      subst this
      exact ⟨fun _ => Same.i rfl, fun h => absurd (Nat.le_refl _) h⟩
    | succ k ih =>
      intro i hk
      refine wp_sound (by rw [hi]; exact ok_X0_grassCount) (hd := [4, 15]) 400 _ _ _ _ _ _ ?_
      simp only [wp, stp, List.mem_cons, List.not_mem_nil, Nat.reduceEqDiff, or_false, or_self, false_or, or_true, true_or, Nat.reduceAdd, ↓reduceIte, List.getElem?_cons_zero, List.getElem?_cons_succ, nthV, List.set_cons_zero, List.set_cons_succ, noL, popA, catS, Value.category, List.length_cons, List.length_nil, Nat.reduceLT, Nat.reduceLeDiff, true_and, and_true, one0, zer1, imp_t, imp_f, ofN_nI, sdead, f20, f21, not_true_eq_false, upC_ap, retC, fitC, isRefT, Option.toList_some, Option.toList_none, List.cons_append, List.nil_append, Nat.lt_add_one, Nat.zero_lt_succ, Nat.le_refl, Nat.add_zero, Nat.zero_add, Nat.one_ne_zero, Nat.zero_ne_one, Nat.lt_irrefl, List.length_set, fa_X0_grassCount, hi, hd, hQ, mr_X0_grassCount, h1]
      try simp only [m1f]
      try simp (disch := omega) only [nI_leI, nI_ltI, nI_eq, nI_clamp, vin_nI, nI_1, fa_lit, nI_add, nI_rm3, nI_rm2, pk_rem, pk_mul, pk_sub, pk_div, nI_eM, nI_Me, nI_pM, nI_pMz, nI_pM0, M1_lt, M1_le, nI_ltM, nI_leM, i8_nI, true_and, and_true, false_implies, true_implies, not_false_eq_true, not_true_eq_false, ne_eq, implies_true, Nat.not_lt_zero, Nat.zero_le]
      try simp only [m1u]
      refine ⟨fun h => absurd h (by omega), fun _ => ⟨by omega, _, t_isGrass hG (by omega) hC' (nI i), ?_⟩⟩
      rintro v n' z' f' ⟨rfl, rfl, rfl, rfl⟩
      have hc := cnt1_le (fun k => grS S (nI k)) i
      refine wp_sound (by rw [hi]; exact ok_X0_grassCount) (hd := [4, 15]) 400 _ _ _ _ _ _ ?_
      simp only [wp, stp, List.mem_cons, List.not_mem_nil, Nat.reduceEqDiff, or_false, or_self, false_or, or_true, true_or, Nat.reduceAdd, ↓reduceIte, List.getElem?_cons_zero, List.getElem?_cons_succ, nthV, List.set_cons_zero, List.set_cons_succ, noL, popA, catS, Value.category, List.length_cons, List.length_nil, Nat.reduceLT, Nat.reduceLeDiff, true_and, and_true, one0, zer1, imp_t, imp_f, ofN_nI, sdead, f20, f21, not_true_eq_false, upC_ap, retC, fitC, isRefT, Option.toList_some, Option.toList_none, List.cons_append, List.nil_append, Nat.lt_add_one, Nat.zero_lt_succ, Nat.le_refl, Nat.add_zero, Nat.zero_add, Nat.one_ne_zero, Nat.zero_ne_one, Nat.lt_irrefl, List.length_set, fa_X0_grassCount, hi, hd, hQ, mr_X0_grassCount, h1, bI_0]
      try simp only [m1f]
      try simp (disch := omega) only [nI_leI, nI_ltI, nI_eq, nI_clamp, vin_nI, nI_1, fa_lit, nI_add, nI_rm3, nI_rm2, pk_rem, pk_mul, pk_sub, pk_div, nI_eM, nI_Me, nI_pM, nI_pMz, nI_pM0, M1_lt, M1_le, nI_ltM, nI_leM, i8_nI, true_and, and_true, false_implies, true_implies, not_false_eq_true, not_true_eq_false, ne_eq, implies_true, Nat.not_lt_zero, Nat.zero_le]
      try simp only [m1u]
      refine ⟨fun h => ?_, fun h => ?_⟩
      · have := ih (i + 1) (by omega)
        rw [cnt1, if_neg h] at this
        exact this
      · have := ih (i + 1) (by omega)
        rw [cnt1, if_pos (Decidable.not_not.mp h)] at this
        exact this
  refine wp_sound (by rw [hi]; exact ok_X0_grassCount) (hd := [4, 15]) 400 _ _ _ _ _ _ ?_
  simp only [wp, stp, List.mem_cons, List.not_mem_nil, Nat.reduceEqDiff, or_false, or_self, false_or, or_true, true_or, Nat.reduceAdd, ↓reduceIte, List.getElem?_cons_zero, List.getElem?_cons_succ, nthV, List.set_cons_zero, List.set_cons_succ, noL, popA, catS, Value.category, List.length_cons, List.length_nil, Nat.reduceLT, Nat.reduceLeDiff, true_and, and_true, one0, zer1, imp_t, imp_f, ofN_nI, sdead, f20, f21, not_true_eq_false, upC_ap, retC, fitC, isRefT, Option.toList_some, Option.toList_none, List.cons_append, List.nil_append, Nat.lt_add_one, Nat.zero_lt_succ, Nat.le_refl, Nat.add_zero, Nat.zero_add, Nat.one_ne_zero, Nat.zero_ne_one, Nat.lt_irrefl, List.length_set, fa_X0_grassCount, hi, hd, hQ, mr_X0_grassCount, h1]
  try simp only [m1f]
  try simp (disch := omega) only [nI_leI, nI_ltI, nI_eq, nI_clamp, vin_nI, nI_1, fa_lit, nI_add, nI_rm3, nI_rm2, pk_rem, pk_mul, pk_sub, pk_div, nI_eM, nI_Me, nI_pM, nI_pMz, nI_pM0, M1_lt, M1_le, nI_ltM, nI_leM, i8_nI, true_and, and_true, false_implies, true_implies, not_false_eq_true, not_true_eq_false, ne_eq, implies_true, Nat.not_lt_zero, Nat.zero_le]
  try simp only [m1u]
  exact loop 100 0 rfl
abbrev tkS (S : Sta) (c : Int32) : Prop := ¬ tentAtS S c = -1 ∨ ¬ manAtS S c = -1 ∨ S 0 5 = c
theorem t_taken (hG : Ok G) (hd1 : 1 ≤ d) (hC : CR S lp f) (hB : Bd S) (c : Int32) : Tr G d 20 [.ref 1, .int c] n z f (Same (.int (bI (tkS S c))) n z f) := by
  have hC' := hC
  obtain ⟨h1, -⟩ := hC
  refine Tr.of2 (ls0 := [.ref 1, .int c]) hG mo_X0_taken (Nat.le_of_ble_eq_true rfl) rfl ?_
  intro X hi hd hXn hXz hXf hQ
  refine wp_sound (by rw [hi]; exact ok_X0_taken) (hd := [5, 14]) 400 _ _ _ _ _ _ ?_
  simp only [wp, stp, List.mem_cons, List.not_mem_nil, Nat.reduceEqDiff, or_false, or_self, false_or, or_true, true_or, Nat.reduceAdd, ↓reduceIte, List.getElem?_cons_zero, List.getElem?_cons_succ, nthV, List.set_cons_zero, List.set_cons_succ, noL, popA, catS, Value.category, List.length_cons, List.length_nil, Nat.reduceLT, Nat.reduceLeDiff, true_and, and_true, one0, zer1, imp_t, imp_f, ofN_nI, sdead, f20, f21, not_true_eq_false, upC_ap, retC, fitC, isRefT, Option.toList_some, Option.toList_none, List.cons_append, List.nil_append, Nat.lt_add_one, Nat.zero_lt_succ, Nat.le_refl, Nat.add_zero, Nat.zero_add, Nat.one_ne_zero, Nat.zero_ne_one, Nat.lt_irrefl, List.length_set, fa_X0_taken, hi, hd, hQ, mr_X0_taken, h1]
  refine ⟨hd1, _, t_tentAt hG hC' hB c, ?_⟩
  rintro v n' z' f' ⟨rfl, rfl, rfl, rfl⟩
  refine wp_sound (by rw [hi]; exact ok_X0_taken) (hd := [5, 14]) 400 _ _ _ _ _ _ ?_
  simp only [wp, stp, List.mem_cons, List.not_mem_nil, Nat.reduceEqDiff, or_false, or_self, false_or, or_true, true_or, Nat.reduceAdd, ↓reduceIte, List.getElem?_cons_zero, List.getElem?_cons_succ, nthV, List.set_cons_zero, List.set_cons_succ, noL, popA, catS, Value.category, List.length_cons, List.length_nil, Nat.reduceLT, Nat.reduceLeDiff, true_and, and_true, one0, zer1, imp_t, imp_f, ofN_nI, sdead, f20, f21, not_true_eq_false, upC_ap, retC, fitC, isRefT, Option.toList_some, Option.toList_none, List.cons_append, List.nil_append, Nat.lt_add_one, Nat.zero_lt_succ, Nat.le_refl, Nat.add_zero, Nat.zero_add, Nat.one_ne_zero, Nat.zero_ne_one, Nat.lt_irrefl, List.length_set, fa_X0_taken, hi, hd, hQ, mr_X0_taken, h1]
  refine ⟨fun h => Same.i (bI_t (Or.inl h)).symm, fun ha => ⟨hd1, _, t_manAt hG hC' hB c, ?_⟩⟩
  rintro v n' z' f' ⟨rfl, rfl, rfl, rfl⟩
  refine wp_sound (by rw [hi]; exact ok_X0_taken) (hd := [5, 14]) 400 _ _ _ _ _ _ ?_
  simp only [wp, stp, List.mem_cons, List.not_mem_nil, Nat.reduceEqDiff, or_false, or_self, false_or, or_true, true_or, Nat.reduceAdd, ↓reduceIte, List.getElem?_cons_zero, List.getElem?_cons_succ, nthV, List.set_cons_zero, List.set_cons_succ, noL, popA, catS, Value.category, List.length_cons, List.length_nil, Nat.reduceLT, Nat.reduceLeDiff, true_and, and_true, one0, zer1, imp_t, imp_f, ofN_nI, sdead, f20, f21, not_true_eq_false, upC_ap, retC, fitC, isRefT, Option.toList_some, Option.toList_none, List.cons_append, List.nil_append, Nat.lt_add_one, Nat.zero_lt_succ, Nat.le_refl, Nat.add_zero, Nat.zero_add, Nat.one_ne_zero, Nat.zero_ne_one, Nat.lt_irrefl, List.length_set, fa_X0_taken, hi, hd, hQ, mr_X0_taken, h1]
  refine ⟨fun h => Same.i (bI_t (Or.inr (Or.inl h))).symm, fun hb => ⟨fun h => Same.i (bI_f ?_).symm, fun h => Same.i (bI_t (Or.inr (Or.inr h))).symm⟩⟩
  rintro (q | q | q)
  · exact q ha
  · exact q hb
  · exact h q
abbrev frS (S : Sta) (c : Int32) : Prop := grS S c ∧ tentAtS S c = -1 ∧ manAtS S c = -1
theorem t_freeForMan (hG : Ok G) (hd1 : 2 ≤ d) (hC : CR S lp f) (hB : Bd S) (c : Int32) : Tr G d 21 [.ref 1, .int c] n z f (Same (.int (bI (frS S c))) n z f) := by
  have hC' := hC
  obtain ⟨h1, -⟩ := hC
  refine Tr.of2 (ls0 := [.ref 1, .int c]) hG mo_X0_freeForMan (Nat.le_of_ble_eq_true rfl) rfl ?_
  intro X hi hd hXn hXz hXf hQ
  refine wp_sound (by rw [hi]; exact ok_X0_freeForMan) (hd := [5, 13, 22]) 400 _ _ _ _ _ _ ?_
  simp only [wp, stp, List.mem_cons, List.not_mem_nil, Nat.reduceEqDiff, or_false, or_self, false_or, or_true, true_or, Nat.reduceAdd, ↓reduceIte, List.getElem?_cons_zero, List.getElem?_cons_succ, nthV, List.set_cons_zero, List.set_cons_succ, noL, popA, catS, Value.category, List.length_cons, List.length_nil, Nat.reduceLT, Nat.reduceLeDiff, true_and, and_true, one0, zer1, imp_t, imp_f, ofN_nI, sdead, f20, f21, not_true_eq_false, upC_ap, retC, fitC, isRefT, Option.toList_some, Option.toList_none, List.cons_append, List.nil_append, Nat.lt_add_one, Nat.zero_lt_succ, Nat.le_refl, Nat.add_zero, Nat.zero_add, Nat.one_ne_zero, Nat.zero_ne_one, Nat.lt_irrefl, List.length_set, fa_X0_freeForMan, hi, hd, hQ, mr_X0_freeForMan, h1]
  refine ⟨by omega, _, t_isGrass hG (by omega) hC' c, ?_⟩
  rintro v n' z' f' ⟨rfl, rfl, rfl, rfl⟩
  refine wp_sound (by rw [hi]; exact ok_X0_freeForMan) (hd := [5, 13, 22]) 400 _ _ _ _ _ _ ?_
  simp only [wp, stp, List.mem_cons, List.not_mem_nil, Nat.reduceEqDiff, or_false, or_self, false_or, or_true, true_or, Nat.reduceAdd, ↓reduceIte, List.getElem?_cons_zero, List.getElem?_cons_succ, nthV, List.set_cons_zero, List.set_cons_succ, noL, popA, catS, Value.category, List.length_cons, List.length_nil, Nat.reduceLT, Nat.reduceLeDiff, true_and, and_true, one0, zer1, imp_t, imp_f, ofN_nI, sdead, f20, f21, not_true_eq_false, upC_ap, retC, fitC, isRefT, Option.toList_some, Option.toList_none, List.cons_append, List.nil_append, Nat.lt_add_one, Nat.zero_lt_succ, Nat.le_refl, Nat.add_zero, Nat.zero_add, Nat.one_ne_zero, Nat.zero_ne_one, Nat.lt_irrefl, List.length_set, fa_X0_freeForMan, hi, hd, hQ, mr_X0_freeForMan, h1, bI_0]
  refine ⟨fun h => Same.i (bI_f (fun q => h q.1)).symm, fun hg => ⟨by omega, _, t_tentAt hG hC' hB c, ?_⟩⟩
  have hg := Decidable.not_not.mp hg
  rintro v n' z' f' ⟨rfl, rfl, rfl, rfl⟩
  refine wp_sound (by rw [hi]; exact ok_X0_freeForMan) (hd := [5, 13, 22]) 400 _ _ _ _ _ _ ?_
  simp only [wp, stp, List.mem_cons, List.not_mem_nil, Nat.reduceEqDiff, or_false, or_self, false_or, or_true, true_or, Nat.reduceAdd, ↓reduceIte, List.getElem?_cons_zero, List.getElem?_cons_succ, nthV, List.set_cons_zero, List.set_cons_succ, noL, popA, catS, Value.category, List.length_cons, List.length_nil, Nat.reduceLT, Nat.reduceLeDiff, true_and, and_true, one0, zer1, imp_t, imp_f, ofN_nI, sdead, f20, f21, not_true_eq_false, upC_ap, retC, fitC, isRefT, Option.toList_some, Option.toList_none, List.cons_append, List.nil_append, Nat.lt_add_one, Nat.zero_lt_succ, Nat.le_refl, Nat.add_zero, Nat.zero_add, Nat.one_ne_zero, Nat.zero_ne_one, Nat.lt_irrefl, List.length_set, fa_X0_freeForMan, hi, hd, hQ, mr_X0_freeForMan, h1]
  refine ⟨fun h => Same.i (bI_f (fun q => h q.2.1)).symm, fun ha => ⟨by omega, _, t_manAt hG hC' hB c, ?_⟩⟩
  rintro v n' z' f' ⟨rfl, rfl, rfl, rfl⟩
  refine wp_sound (by rw [hi]; exact ok_X0_freeForMan) (hd := [5, 13, 22]) 400 _ _ _ _ _ _ ?_
  simp only [wp, stp, List.mem_cons, List.not_mem_nil, Nat.reduceEqDiff, or_false, or_self, false_or, or_true, true_or, Nat.reduceAdd, ↓reduceIte, List.getElem?_cons_zero, List.getElem?_cons_succ, nthV, List.set_cons_zero, List.set_cons_succ, noL, popA, catS, Value.category, List.length_cons, List.length_nil, Nat.reduceLT, Nat.reduceLeDiff, true_and, and_true, one0, zer1, imp_t, imp_f, ofN_nI, sdead, f20, f21, not_true_eq_false, upC_ap, retC, fitC, isRefT, Option.toList_some, Option.toList_none, List.cons_append, List.nil_append, Nat.lt_add_one, Nat.zero_lt_succ, Nat.le_refl, Nat.add_zero, Nat.zero_add, Nat.one_ne_zero, Nat.zero_ne_one, Nat.lt_irrefl, List.length_set, fa_X0_freeForMan, hi, hd, hQ, mr_X0_freeForMan, h1]
  exact ⟨fun h => Same.i (bI_f (fun q => h q.2.2)).symm, fun hb => Same.i (bI_t ⟨hg, ha, hb⟩).symm⟩
/-- no other tent stands in the way -/
abbrev clS (S : Sta) (c t fam : Int32) (o : Nat) : Prop := ¬ ((¬ nI o = t ∧ S 2 o = c) ∧ (fam = 0 ∨ ¬ S 3 o = fam))
abbrev csS (S : Sta) (c t fam : Int32) : Prop := (grS S c ∧ manAtS S c = -1) ∧ ∀ o, o < tn S → clS S c t fam o
theorem t_couldStand (hG : Ok G) (hd1 : 2 ≤ d) (hC : CR S lp f) (hB : Bd S) (c t fam : Int32) : Tr G d 22 [.ref 1, .int c, .int t, .int fam] n z f (Same (.int (bI (csS S c t fam))) n z f) := by
  have hC' := hC
  obtain ⟨h1, kd, ya, fa, mo, co, mv, tp, my, h2, h2', h3, h3', h4, h4', -⟩ := hC
  obtain ⟨⟨b1, b2⟩, -⟩ := id hB
  refine Tr.of2 (ls0 := [.ref 1, .int c, .int t, .int fam, dead, dead]) hG mo_X0_couldStand (Nat.le_of_ble_eq_true rfl) rfl ?_
  intro X hi hd hXn hXz hXf hQ
  refine wp_sound (by rw [hi]; exact ok_X0_couldStand) (hd := [5, 13, 22]) 400 _ _ _ _ _ _ ?_
  simp only [wp, stp, List.mem_cons, List.not_mem_nil, Nat.reduceEqDiff, or_false, or_self, false_or, or_true, true_or, Nat.reduceAdd, ↓reduceIte, List.getElem?_cons_zero, List.getElem?_cons_succ, nthV, List.set_cons_zero, List.set_cons_succ, noL, popA, catS, Value.category, List.length_cons, List.length_nil, Nat.reduceLT, Nat.reduceLeDiff, true_and, and_true, one0, zer1, imp_t, imp_f, ofN_nI, sdead, f20, f21, not_true_eq_false, upC_ap, retC, fitC, isRefT, Option.toList_some, Option.toList_none, List.cons_append, List.nil_append, Nat.lt_add_one, Nat.zero_lt_succ, Nat.le_refl, Nat.add_zero, Nat.zero_add, Nat.one_ne_zero, Nat.zero_ne_one, Nat.lt_irrefl, List.length_set, fa_X0_couldStand, hi, hd, hQ, mr_X0_couldStand, h1]
  refine ⟨by omega, _, t_isGrass hG (by omega) hC' c, ?_⟩
  rintro v n' z' f' ⟨rfl, rfl, rfl, rfl⟩
  refine wp_sound (by rw [hi]; exact ok_X0_couldStand) (hd := [5, 13, 22]) 400 _ _ _ _ _ _ ?_
  simp only [wp, stp, List.mem_cons, List.not_mem_nil, Nat.reduceEqDiff, or_false, or_self, false_or, or_true, true_or, Nat.reduceAdd, ↓reduceIte, List.getElem?_cons_zero, List.getElem?_cons_succ, nthV, List.set_cons_zero, List.set_cons_succ, noL, popA, catS, Value.category, List.length_cons, List.length_nil, Nat.reduceLT, Nat.reduceLeDiff, true_and, and_true, one0, zer1, imp_t, imp_f, ofN_nI, sdead, f20, f21, not_true_eq_false, upC_ap, retC, fitC, isRefT, Option.toList_some, Option.toList_none, List.cons_append, List.nil_append, Nat.lt_add_one, Nat.zero_lt_succ, Nat.le_refl, Nat.add_zero, Nat.zero_add, Nat.one_ne_zero, Nat.zero_ne_one, Nat.lt_irrefl, List.length_set, fa_X0_couldStand, hi, hd, hQ, mr_X0_couldStand, h1, bI_0]
  refine ⟨fun h => Same.i (bI_f (fun q => h q.1.1)).symm, fun hg => ⟨by omega, _, t_manAt hG hC' hB c, ?_⟩⟩
  have hg := Decidable.not_not.mp hg
  rintro v n' z' f' ⟨rfl, rfl, rfl, rfl⟩
  have loop : ∀ k i u, i + k = tn S → (∀ o, o < i → clS S c t fam o) → (grS S c ∧ manAtS S c = -1) → V G X 22 [.ref 1, .int c, .int t, .int fam, .int (nI i), u] [] n' z' f' := by
    intro k
    induction k with
    | zero =>
      intro i u hk he hg
      refine wp_sound (by rw [hi]; exact ok_X0_couldStand) (hd := [5, 13, 22]) 400 _ _ _ _ _ _ ?_
      simp only [wp, stp, List.mem_cons, List.not_mem_nil, Nat.reduceEqDiff, or_false, or_self, false_or, or_true, true_or, Nat.reduceAdd, ↓reduceIte, List.getElem?_cons_zero, List.getElem?_cons_succ, nthV, List.set_cons_zero, List.set_cons_succ, noL, popA, catS, Value.category, List.length_cons, List.length_nil, Nat.reduceLT, Nat.reduceLeDiff, true_and, and_true, one0, zer1, imp_t, imp_f, ofN_nI, sdead, f20, f21, not_true_eq_false, upC_ap, retC, fitC, isRefT, Option.toList_some, Option.toList_none, List.cons_append, List.nil_append, Nat.lt_add_one, Nat.zero_lt_succ, Nat.le_refl, Nat.add_zero, Nat.zero_add, Nat.one_ne_zero, Nat.zero_ne_one, Nat.lt_irrefl, List.length_set, fa_X0_couldStand, hi, hd, hQ, mr_X0_couldStand, h1, h3, h4, b1]
      try simp only [m1f]
      try simp (disch := omega) only [nI_leI, nI_ltI, nI_eq, nI_clamp, vin_nI, nI_1, fa_lit, nI_add, nI_rm3, nI_rm2, pk_rem, pk_mul, pk_sub, pk_div, nI_eM, nI_Me, nI_pM, nI_pMz, nI_pM0, M1_lt, M1_le, nI_ltM, nI_leM, i8_nI, true_and, and_true, false_implies, true_implies, not_false_eq_true, not_true_eq_false, ne_eq, implies_true, Nat.not_lt_zero, Nat.zero_le]
      try simp only [m1u]
      have : i = tn S := by omega
      subst this
      exact ⟨fun _ => Same.i (bI_t ⟨hg, he⟩).symm, fun h => absurd (Nat.le_refl _) h⟩
    | succ k ih =>
      intro i u hk he hg
      have hyes : clS S c t fam i → V G X 22 [.ref 1, .int c, .int t, .int fam, .int (nI (i + 1)), dead] [] n' z' f' := fun q => ih (i + 1) dead (by omega) (fun o ho => by
        rcases Nat.lt_or_ge o i with r | r
        · exact he o r
        · have : o = i := by omega
          subst this; exact q) hg
      have hno : ¬ clS S c t fam i → Same (.int (bI (csS S c t fam))) n' z' f' (some (.int 0)) n' z' f' := fun q => Same.i (bI_f (fun r => q (r.2 i (by omega)))).symm
      have e1 := h3' i (by omega)
      have e2 := h4' i (by omega)
      refine wp_sound (by rw [hi]; exact ok_X0_couldStand) (hd := [5, 13, 22, 77]) 400 _ _ _ _ _ _ ?_
      simp only [wp, stp, List.mem_cons, List.not_mem_nil, Nat.reduceEqDiff, or_false, or_self, false_or, or_true, true_or, Nat.reduceAdd, ↓reduceIte, List.getElem?_cons_zero, List.getElem?_cons_succ, nthV, List.set_cons_zero, List.set_cons_succ, noL, popA, catS, Value.category, List.length_cons, List.length_nil, Nat.reduceLT, Nat.reduceLeDiff, true_and, and_true, one0, zer1, imp_t, imp_f, ofN_nI, sdead, f20, f21, not_true_eq_false, upC_ap, retC, fitC, isRefT, Option.toList_some, Option.toList_none, List.cons_append, List.nil_append, Nat.lt_add_one, Nat.zero_lt_succ, Nat.le_refl, Nat.add_zero, Nat.zero_add, Nat.one_ne_zero, Nat.zero_ne_one, Nat.lt_irrefl, List.length_set, fa_X0_couldStand, hi, hd, hQ, mr_X0_couldStand, h1, h3, h4, b1]
      try simp only [m1f]
      try simp (disch := omega) only [nI_leI, nI_ltI, nI_eq, nI_clamp, vin_nI, nI_1, fa_lit, nI_add, nI_rm3, nI_rm2, pk_rem, pk_mul, pk_sub, pk_div, nI_eM, nI_Me, nI_pM, nI_pMz, nI_pM0, M1_lt, M1_le, nI_ltM, nI_leM, i8_nI, true_and, and_true, false_implies, true_implies, not_false_eq_true, not_true_eq_false, ne_eq, implies_true, Nat.not_lt_zero, Nat.zero_le]
      try simp only [m1u]
      rw [e1, e2]
      have h77 : clS S c t fam i → ∀ u, V G X 77 [.ref 1, .int c, .int t, .int fam, .int (nI i), u] [] n' z' f' := by
        intro q u
        refine V.forget 5 ?_
        refine wp_sound (by rw [hi]; exact ok_X0_couldStand) (hd := [5, 13, 22]) 400 _ _ _ _ _ _ ?_
        simp only [wp, stp, List.mem_cons, List.not_mem_nil, Nat.reduceEqDiff, or_false, or_self, false_or, or_true, true_or, Nat.reduceAdd, ↓reduceIte, List.getElem?_cons_zero, List.getElem?_cons_succ, nthV, List.set_cons_zero, List.set_cons_succ, noL, popA, catS, Value.category, List.length_cons, List.length_nil, Nat.reduceLT, Nat.reduceLeDiff, true_and, and_true, one0, zer1, imp_t, imp_f, ofN_nI, sdead, f20, f21, not_true_eq_false, upC_ap, retC, fitC, isRefT, Option.toList_some, Option.toList_none, List.cons_append, List.nil_append, Nat.lt_add_one, Nat.zero_lt_succ, Nat.le_refl, Nat.add_zero, Nat.zero_add, Nat.one_ne_zero, Nat.zero_ne_one, Nat.lt_irrefl, List.length_set, fa_X0_couldStand, hi, hd, hQ, mr_X0_couldStand, h1, h3, h4, b1]
        try simp only [m1f]
        try simp (disch := omega) only [nI_leI, nI_ltI, nI_eq, nI_clamp, vin_nI, nI_1, fa_lit, nI_add, nI_rm3, nI_rm2, pk_rem, pk_mul, pk_sub, pk_div, nI_eM, nI_Me, nI_pM, nI_pMz, nI_pM0, M1_lt, M1_le, nI_ltM, nI_leM, i8_nI, true_and, and_true, false_implies, true_implies, not_false_eq_true, not_true_eq_false, ne_eq, implies_true, Nat.not_lt_zero, Nat.zero_le]
        try simp only [m1u]
        exact hyes q
      refine ⟨fun h => absurd h (by omega), fun _ => ⟨fun ha => h77 (fun q => q.1.1 ha) _, fun ha => ⟨by omega, fun hb => h77 (fun q => hb q.1.2) _, fun hb => ⟨fun hc => hno (fun q => q ⟨⟨ha, hb⟩, Or.inl hc⟩), fun hc => ⟨by omega, fun hd => h77 (fun q => q.2.elim hc (fun r => r hd)) _, fun hd => hno (fun q => q ⟨⟨ha, hb⟩, Or.inr hd⟩)⟩⟩⟩⟩⟩
  refine wp_sound (by rw [hi]; exact ok_X0_couldStand) (hd := [5, 13, 22]) 400 _ _ _ _ _ _ ?_
  simp only [wp, stp, List.mem_cons, List.not_mem_nil, Nat.reduceEqDiff, or_false, or_self, false_or, or_true, true_or, Nat.reduceAdd, ↓reduceIte, List.getElem?_cons_zero, List.getElem?_cons_succ, nthV, List.set_cons_zero, List.set_cons_succ, noL, popA, catS, Value.category, List.length_cons, List.length_nil, Nat.reduceLT, Nat.reduceLeDiff, true_and, and_true, one0, zer1, imp_t, imp_f, ofN_nI, sdead, f20, f21, not_true_eq_false, upC_ap, retC, fitC, isRefT, Option.toList_some, Option.toList_none, List.cons_append, List.nil_append, Nat.lt_add_one, Nat.zero_lt_succ, Nat.le_refl, Nat.add_zero, Nat.zero_add, Nat.one_ne_zero, Nat.zero_ne_one, Nat.lt_irrefl, List.length_set, fa_X0_couldStand, hi, hd, hQ, mr_X0_couldStand, h1]
  exact ⟨fun h => loop (tn S) 0 dead (by omega) (fun o ho => absurd ho (Nat.not_lt_zero o)) ⟨hg, h⟩, fun h => Same.i (bI_f (fun q => h q.1.2)).symm⟩
theorem t_bodies (hG : Ok G) (hC : CR S lp f) (hB : Bd S) : Tr G d 24 [.ref 1] n z f (Same (.int (nI (tn S + mn S + 1))) n z f) := by
  obtain ⟨h1, -⟩ := hC
  obtain ⟨⟨b1, b2⟩, ⟨b3, b4⟩, -⟩ := id hB
  refine Tr.of2 (ls0 := [.ref 1]) hG mo_X0_bodies (Nat.le_of_ble_eq_true rfl) rfl ?_
  intro X hi hd hXn hXz hXf hQ
  refine wp_sound (by rw [hi]; exact ok_X0_bodies) (hd := []) 400 _ _ _ _ _ _ ?_
  simp only [wp, stp, List.mem_cons, List.not_mem_nil, Nat.reduceEqDiff, or_false, or_self, false_or, or_true, true_or, Nat.reduceAdd, ↓reduceIte, List.getElem?_cons_zero, List.getElem?_cons_succ, nthV, List.set_cons_zero, List.set_cons_succ, noL, popA, catS, Value.category, List.length_cons, List.length_nil, Nat.reduceLT, Nat.reduceLeDiff, true_and, and_true, one0, zer1, imp_t, imp_f, ofN_nI, sdead, f20, f21, not_true_eq_false, upC_ap, retC, fitC, isRefT, Option.toList_some, Option.toList_none, List.cons_append, List.nil_append, Nat.lt_add_one, Nat.zero_lt_succ, Nat.le_refl, Nat.add_zero, Nat.zero_add, Nat.one_ne_zero, Nat.zero_ne_one, Nat.lt_irrefl, List.length_set, fa_X0_bodies, hi, hd, hQ, mr_X0_bodies, h1, b1, b3]
  try simp only [m1f]
  try simp (disch := omega) only [nI_leI, nI_ltI, nI_eq, nI_clamp, vin_nI, nI_1, fa_lit, nI_add, nI_rm3, nI_rm2, pk_rem, pk_mul, pk_sub, pk_div, nI_eM, nI_Me, nI_pM, nI_pMz, nI_pM0, M1_lt, M1_le, nI_ltM, nI_leM, i8_nI, true_and, and_true, false_implies, true_implies, not_false_eq_true, not_true_eq_false, ne_eq, implies_true, Nat.not_lt_zero, Nat.zero_le]
  try simp only [m1u]
  exact Same.i rfl
/-- where a body is -/
def ybS (S : Sta) (o : Nat) : Int32 := if o < tn S then S 2 o else if o < tn S + mn S then S 8 (o - tn S) else S 0 5
theorem t_yardOfBody (hG : Ok G) (hC : CR S lp f) (hB : Bd S) {o : Nat} (ho : o < 100) : Tr G d 25 [.ref 1, .int (nI o)] n z f (Same (.int (ybS S o)) n z f) := by
  obtain ⟨h1, kd, ya, fa, mo, co, mv, tp, my, h2, h2', h3, h3', h4, h4', -, -, -, -, -, -, -, -, h9, h9'⟩ := hC
  obtain ⟨⟨b1, b2⟩, ⟨b3, b4⟩, -⟩ := id hB
  refine Tr.of2 (ls0 := [.ref 1, .int (nI o)]) hG mo_X0_yardOfBody (Nat.le_of_ble_eq_true rfl) rfl ?_
  intro X hi hd hXn hXz hXf hQ
  refine wp_sound (by rw [hi]; exact ok_X0_yardOfBody) (hd := []) 400 _ _ _ _ _ _ ?_
  simp only [wp, stp, List.mem_cons, List.not_mem_nil, Nat.reduceEqDiff, or_false, or_self, false_or, or_true, true_or, Nat.reduceAdd, ↓reduceIte, List.getElem?_cons_zero, List.getElem?_cons_succ, nthV, List.set_cons_zero, List.set_cons_succ, noL, popA, catS, Value.category, List.length_cons, List.length_nil, Nat.reduceLT, Nat.reduceLeDiff, true_and, and_true, one0, zer1, imp_t, imp_f, ofN_nI, sdead, f20, f21, not_true_eq_false, upC_ap, retC, fitC, isRefT, Option.toList_some, Option.toList_none, List.cons_append, List.nil_append, Nat.lt_add_one, Nat.zero_lt_succ, Nat.le_refl, Nat.add_zero, Nat.zero_add, Nat.one_ne_zero, Nat.zero_ne_one, Nat.lt_irrefl, List.length_set, fa_X0_yardOfBody, hi, hd, hQ, mr_X0_yardOfBody, h1, h3, h9, b1, b3]
  try simp only [m1f]
  try simp (disch := omega) only [nI_leI, nI_ltI, nI_eq, nI_clamp, vin_nI, nI_1, fa_lit, nI_add, nI_rm3, nI_rm2, pk_rem, pk_mul, pk_sub, pk_div, nI_eM, nI_Me, nI_pM, nI_pMz, nI_pM0, M1_lt, M1_le, nI_ltM, nI_leM, i8_nI, true_and, and_true, false_implies, true_implies, not_false_eq_true, not_true_eq_false, ne_eq, implies_true, Nat.not_lt_zero, Nat.zero_le]
  try simp only [m1u]
  refine ⟨fun ha => ⟨fun hb => Same.i ?_, fun hb => ?_⟩, fun ha => ⟨by omega, Same.i ?_⟩⟩
  · rw [ybS, if_neg (by omega), if_neg (by omega)]
  · rw [pk_sub (by omega), nI_clamp (by omega), vin_nI (by omega)]
    refine ⟨by omega, Same.i ?_⟩
    rw [ybS, if_neg (by omega), if_pos (by omega), h9' _ (by omega)]
  · rw [ybS, if_pos (by omega), h3' _ (by omega)]
abbrev kiS (S : Sta) (a b : Nat) : Prop := ((¬ a = b ∧ a < tn S ∧ b < tn S) ∧ ¬ S 3 a = 0 ∧ S 3 a = S 3 b) ∧ ¬ S 2 a = -1 ∧ ¬ S 2 b = -1
theorem t_areKin (hG : Ok G) (hC : CR S lp f) (hB : Bd S) {a b : Nat} (ha : a < 100) (hb : b < 100) : Tr G d 26 [.ref 1, .int (nI a), .int (nI b)] n z f (Same (.int (bI (kiS S a b))) n z f) := by
  obtain ⟨h1, kd, ya, fa, mo, co, mv, tp, my, h2, h2', h3, h3', h4, h4', -⟩ := hC
  obtain ⟨⟨b1, b2⟩, ⟨b3, b4⟩, -⟩ := id hB
  refine Tr.of2 (ls0 := [.ref 1, .int (nI a), .int (nI b)]) hG mo_X0_areKin (Nat.le_of_ble_eq_true rfl) rfl ?_
  intro X hi hd hXn hXz hXf hQ
  refine wp_sound (by rw [hi]; exact ok_X0_areKin) (hd := []) 400 _ _ _ _ _ _ ?_
  simp only [wp, stp, List.mem_cons, List.not_mem_nil, Nat.reduceEqDiff, or_false, or_self, false_or, or_true, true_or, Nat.reduceAdd, ↓reduceIte, List.getElem?_cons_zero, List.getElem?_cons_succ, nthV, List.set_cons_zero, List.set_cons_succ, noL, popA, catS, Value.category, List.length_cons, List.length_nil, Nat.reduceLT, Nat.reduceLeDiff, true_and, and_true, one0, zer1, imp_t, imp_f, ofN_nI, sdead, f20, f21, not_true_eq_false, upC_ap, retC, fitC, isRefT, Option.toList_some, Option.toList_none, List.cons_append, List.nil_append, Nat.lt_add_one, Nat.zero_lt_succ, Nat.le_refl, Nat.add_zero, Nat.zero_add, Nat.one_ne_zero, Nat.zero_ne_one, Nat.lt_irrefl, List.length_set, fa_X0_areKin, hi, hd, hQ, mr_X0_areKin, h1, h3, h4, b1, b3]
  try simp only [m1f]
  try simp (disch := omega) only [nI_leI, nI_ltI, nI_eq, nI_clamp, vin_nI, nI_1, fa_lit, nI_add, nI_rm3, nI_rm2, pk_rem, pk_mul, pk_sub, pk_div, nI_eM, nI_Me, nI_pM, nI_pMz, nI_pM0, M1_lt, M1_le, nI_ltM, nI_leM, i8_nI, true_and, and_true, false_implies, true_implies, not_false_eq_true, not_true_eq_false, ne_eq, implies_true, Nat.not_lt_zero, Nat.zero_le]
  try simp only [m1u]
  refine ⟨fun h => Same.i (bI_f (fun q => q.1.1.1 h)).symm, fun hab => ⟨fun h => Same.i (bI_f (fun q => absurd q.1.1.2.1 (by omega))).symm, fun hta => ⟨fun h => Same.i (bI_f (fun q => absurd q.1.1.2.2 (by omega))).symm, fun htb => ?_⟩⟩⟩
  rw [h4' a (by omega), h4' b (by omega), h3' a (by omega), h3' b (by omega)]
  exact ⟨by omega, fun h => Same.i (bI_f (fun q => q.1.2.1 h)).symm, fun hc => ⟨by omega, by omega, fun h => Same.i (bI_f (fun q => h q.1.2.2)).symm, fun hd => ⟨by omega, fun h => Same.i (bI_f (fun q => q.2.1 h)).symm, fun he => ⟨by omega, fun h => Same.i (bI_f (fun q => q.2.2 h)).symm, fun hf => Same.i (bI_t ⟨⟨⟨hab, by omega, by omega⟩, hc, hd⟩, he, hf⟩).symm⟩⟩⟩⟩
end Camp2
