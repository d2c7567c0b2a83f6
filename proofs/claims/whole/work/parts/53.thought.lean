-- Thought: rest
set_option maxRecDepth 100000
set_option maxHeartbeats 4000000
section Th4
variable {G : Gam} {d n z lp N Z K t : Nat} {f : Mf} {S : Sta} {L : Lw} {a : Nat → Int32}
theorem t_circleUpTo (hG : Ok G) {T : Sta} (hB : tn S ≤ 10) (hC : CR T lp f) (h3 : T 0 3 = nI (tn S)) (hT : TV f a) {st : Nat → Int32} (h29 : f 29 = cI 610 st) {m : Nat} (hm : 1 ≤ m ∧ m ≤ 60) (hst : ∀ e t, e ≤ m → t < tn S → st (10 * e + t) = seqS L S e 2 t) : Tr G d 77 [.ref 28, .int (nI m)] n z f (Same (.int (nI (cirS L S m))) n z f) := by
  have c1 := hC.1
  unfold TV at hT
  rw [h3] at c1
  refine Tr.of2 (ls0 := [.ref 28, .int (nI m), dead, dead, dead]) hG mo_X6_circleUpTo (Nat.le_of_ble_eq_true rfl) rfl ?_
  intro X hi hd hXn hXz hXf hQ
  have step : ∀ e u3 u4, e < m → (eqY (tn S) (seqS L S e) (seqS L S m) → cirS L S m = m - e) → (¬ eqY (tn S) (seqS L S e) (seqS L S m) → ∀ u3 u4, V G X 76 [.ref 28, .int (nI m), .int (nI e), u3, u4] [] n z f) → V G X 4 [.ref 28, .int (nI m), .int (nI e), u3, u4] [] n z f := by
    intro e u3 u4 he hy hn
    have h68 : ∀ s u4, (s = 1 ∧ eqY (tn S) (seqS L S e) (seqS L S m)) ∨ (s = 0 ∧ ¬ eqY (tn S) (seqS L S e) (seqS L S m)) → V G X 68 [.ref 28, .int (nI m), .int (nI e), .int s, u4] [] n z f := by
      rintro s u4 (⟨rfl, hP⟩ | ⟨rfl, hP⟩)
      · refine wp_sound (by rw [hi]; exact ok_X6_circleUpTo) (hd := [4, 13]) 400 _ _ _ _ _ _ ?_
        simp only [wp, stp, List.mem_cons, List.not_mem_nil, Nat.reduceEqDiff, or_false, or_self, false_or, or_true, true_or, Nat.reduceAdd, ↓reduceIte, List.getElem?_cons_zero, List.getElem?_cons_succ, nthV, List.set_cons_zero, List.set_cons_succ, noL, popA, catS, Value.category, List.length_cons, List.length_nil, Nat.reduceLT, Nat.reduceLeDiff, true_and, and_true, one0, zer1, imp_t, imp_f, ofN_nI, sdead, f20, f21, not_true_eq_false, upC_ap, upC_upC, retC, fitC, isRefT, Option.toList_some, Option.toList_none, List.cons_append, List.nil_append, Nat.lt_add_one, Nat.zero_lt_succ, Nat.le_refl, Nat.add_zero, Nat.zero_add, Nat.one_ne_zero, Nat.zero_ne_one, Nat.lt_irrefl, List.length_set, fa_X6_circleUpTo, hi, hd, hQ, mr_X6_circleUpTo]
        try simp only [m1f]
        try simp (disch := omega) only [nmod, nI_leI, nI_ltI, nI_eq, nI_clamp, vin_nI, nI_1, fa_lit, nI_add, nI_rm3, nI_rm2, pk_rem, pk_mul, pk_sub, pk_div, nI_eM, nI_Me, nI_pM, nI_pMz, nI_pM0, M1_lt, M1_le, nI_ltM, nI_leM, i8_nI, true_and, and_true, false_implies, true_implies, not_false_eq_true, not_true_eq_false, ne_eq, implies_true, Nat.not_lt_zero, Nat.zero_le, ite_min, max0, Nat.reduceLT, Nat.reduceLeDiff, Nat.reduceEqDiff, Nat.reduceAdd, Nat.reduceMul]
        try simp only [m1u]
        exact Same.i (by rw [hy hP])
      · refine wp_sound (by rw [hi]; exact ok_X6_circleUpTo) (hd := [4, 13, 76]) 400 _ _ _ _ _ _ ?_
        simp only [wp, stp, List.mem_cons, List.not_mem_nil, Nat.reduceEqDiff, or_false, or_self, false_or, or_true, true_or, Nat.reduceAdd, ↓reduceIte, List.getElem?_cons_zero, List.getElem?_cons_succ, nthV, List.set_cons_zero, List.set_cons_succ, noL, popA, catS, Value.category, List.length_cons, List.length_nil, Nat.reduceLT, Nat.reduceLeDiff, true_and, and_true, one0, zer1, imp_t, imp_f, ofN_nI, sdead, f20, f21, not_true_eq_false, upC_ap, upC_upC, retC, fitC, isRefT, Option.toList_some, Option.toList_none, List.cons_append, List.nil_append, Nat.lt_add_one, Nat.zero_lt_succ, Nat.le_refl, Nat.add_zero, Nat.zero_add, Nat.one_ne_zero, Nat.zero_ne_one, Nat.lt_irrefl, List.length_set, fa_X6_circleUpTo, hi, hd, hQ, mr_X6_circleUpTo]
        try simp only [m1f]
        try simp (disch := omega) only [nmod, nI_leI, nI_ltI, nI_eq, nI_clamp, vin_nI, nI_1, fa_lit, nI_add, nI_rm3, nI_rm2, pk_rem, pk_mul, pk_sub, pk_div, nI_eM, nI_Me, nI_pM, nI_pMz, nI_pM0, M1_lt, M1_le, nI_ltM, nI_leM, i8_nI, true_and, and_true, false_implies, true_implies, not_false_eq_true, not_true_eq_false, ne_eq, implies_true, Nat.not_lt_zero, Nat.zero_le, ite_min, max0, Nat.reduceLT, Nat.reduceLeDiff, Nat.reduceEqDiff, Nat.reduceAdd, Nat.reduceMul]
        try simp only [m1u]
        exact hn hP _ _
    have inner : ∀ k' k s, k + k' = tn S → (s = 1 ∧ ∀ t, t < k → seqS L S e 2 t = seqS L S m 2 t) ∨ (s = 0 ∧ ¬ eqY (tn S) (seqS L S e) (seqS L S m)) → V G X 13 [.ref 28, .int (nI m), .int (nI e), .int s, .int (nI k)] [] n z f := by
      intro k'
      induction k' with
      | zero =>
        intro k s hk hs
        have : k = tn S := by omega
        subst this
        refine wp_sound (by rw [hi]; exact ok_X6_circleUpTo) (hd := [4, 13, 68]) 400 _ _ _ _ _ _ ?_
        simp only [wp, stp, List.mem_cons, List.not_mem_nil, Nat.reduceEqDiff, or_false, or_self, false_or, or_true, true_or, Nat.reduceAdd, ↓reduceIte, List.getElem?_cons_zero, List.getElem?_cons_succ, nthV, List.set_cons_zero, List.set_cons_succ, noL, popA, catS, Value.category, List.length_cons, List.length_nil, Nat.reduceLT, Nat.reduceLeDiff, true_and, and_true, one0, zer1, imp_t, imp_f, ofN_nI, sdead, f20, f21, not_true_eq_false, upC_ap, upC_upC, retC, fitC, isRefT, Option.toList_some, Option.toList_none, List.cons_append, List.nil_append, Nat.lt_add_one, Nat.zero_lt_succ, Nat.le_refl, Nat.add_zero, Nat.zero_add, Nat.one_ne_zero, Nat.zero_ne_one, Nat.lt_irrefl, List.length_set, fa_X6_circleUpTo, hi, hd, hQ, mr_X6_circleUpTo, c1, hT]
        try simp only [m1f]
        try simp (disch := omega) only [nmod, nI_leI, nI_ltI, nI_eq, nI_clamp, vin_nI, nI_1, fa_lit, nI_add, nI_rm3, nI_rm2, pk_rem, pk_mul, pk_sub, pk_div, nI_eM, nI_Me, nI_pM, nI_pMz, nI_pM0, M1_lt, M1_le, nI_ltM, nI_leM, i8_nI, true_and, and_true, false_implies, true_implies, not_false_eq_true, not_true_eq_false, ne_eq, implies_true, Nat.not_lt_zero, Nat.zero_le, ite_min, max0, Nat.reduceLT, Nat.reduceLeDiff, Nat.reduceEqDiff, Nat.reduceAdd, Nat.reduceMul]
        try simp only [m1u]
        exact ⟨fun _ => h68 _ _ hs, fun h => absurd (Nat.le_refl _) h⟩
      | succ k' ih =>
        intro k s hk hs
        rcases hs with ⟨rfl, hs⟩ | ⟨rfl, hs⟩
        · refine wp_sound (by rw [hi]; exact ok_X6_circleUpTo) (hd := [4, 13, 68]) 400 _ _ _ _ _ _ ?_
          simp only [wp, stp, List.mem_cons, List.not_mem_nil, Nat.reduceEqDiff, or_false, or_self, false_or, or_true, true_or, Nat.reduceAdd, ↓reduceIte, List.getElem?_cons_zero, List.getElem?_cons_succ, nthV, List.set_cons_zero, List.set_cons_succ, noL, popA, catS, Value.category, List.length_cons, List.length_nil, Nat.reduceLT, Nat.reduceLeDiff, true_and, and_true, one0, zer1, imp_t, imp_f, ofN_nI, sdead, f20, f21, not_true_eq_false, upC_ap, upC_upC, retC, fitC, isRefT, Option.toList_some, Option.toList_none, List.cons_append, List.nil_append, Nat.lt_add_one, Nat.zero_lt_succ, Nat.le_refl, Nat.add_zero, Nat.zero_add, Nat.one_ne_zero, Nat.zero_ne_one, Nat.lt_irrefl, List.length_set, fa_X6_circleUpTo, hi, hd, hQ, mr_X6_circleUpTo, c1, hT, h29]
          try simp only [m1f]
          try simp (disch := omega) only [nmod, nI_leI, nI_ltI, nI_eq, nI_clamp, vin_nI, nI_1, fa_lit, nI_add, nI_rm3, nI_rm2, pk_rem, pk_mul, pk_sub, pk_div, nI_eM, nI_Me, nI_pM, nI_pMz, nI_pM0, M1_lt, M1_le, nI_ltM, nI_leM, i8_nI, true_and, and_true, false_implies, true_implies, not_false_eq_true, not_true_eq_false, ne_eq, implies_true, Nat.not_lt_zero, Nat.zero_le, ite_min, max0, Nat.reduceLT, Nat.reduceLeDiff, Nat.reduceEqDiff, Nat.reduceAdd, Nat.reduceMul]
          try simp only [m1u]
          rw [hst e k (by omega) (by omega), hst m k (by omega) (by omega)]
          refine ⟨fun h => absurd h (by omega), fun _ => ⟨by omega, by omega, fun h => ih (k + 1) _ (by omega) (Or.inr ⟨rfl, fun q => h (q k (by omega))⟩), fun h => ih (k + 1) _ (by omega) (Or.inl ⟨rfl, fun t ht => ?_⟩)⟩⟩
          by_cases q : t = k
          · subst q; exact h
          · exact hs t (by omega)
        · refine wp_sound (by rw [hi]; exact ok_X6_circleUpTo) (hd := [4, 13, 68]) 400 _ _ _ _ _ _ ?_
          simp only [wp, stp, List.mem_cons, List.not_mem_nil, Nat.reduceEqDiff, or_false, or_self, false_or, or_true, true_or, Nat.reduceAdd, ↓reduceIte, List.getElem?_cons_zero, List.getElem?_cons_succ, nthV, List.set_cons_zero, List.set_cons_succ, noL, popA, catS, Value.category, List.length_cons, List.length_nil, Nat.reduceLT, Nat.reduceLeDiff, true_and, and_true, one0, zer1, imp_t, imp_f, ofN_nI, sdead, f20, f21, not_true_eq_false, upC_ap, upC_upC, retC, fitC, isRefT, Option.toList_some, Option.toList_none, List.cons_append, List.nil_append, Nat.lt_add_one, Nat.zero_lt_succ, Nat.le_refl, Nat.add_zero, Nat.zero_add, Nat.one_ne_zero, Nat.zero_ne_one, Nat.lt_irrefl, List.length_set, fa_X6_circleUpTo, hi, hd, hQ, mr_X6_circleUpTo, c1, hT, h29]
          try simp only [m1f]
          try simp (disch := omega) only [nmod, nI_leI, nI_ltI, nI_eq, nI_clamp, vin_nI, nI_1, fa_lit, nI_add, nI_rm3, nI_rm2, pk_rem, pk_mul, pk_sub, pk_div, nI_eM, nI_Me, nI_pM, nI_pMz, nI_pM0, M1_lt, M1_le, nI_ltM, nI_leM, i8_nI, true_and, and_true, false_implies, true_implies, not_false_eq_true, not_true_eq_false, ne_eq, implies_true, Nat.not_lt_zero, Nat.zero_le, ite_min, max0, Nat.reduceLT, Nat.reduceLeDiff, Nat.reduceEqDiff, Nat.reduceAdd, Nat.reduceMul]
          try simp only [m1u]
          exact ⟨fun h => h68 _ _ (Or.inr ⟨rfl, hs⟩), fun _ => h68 _ _ (Or.inr ⟨rfl, hs⟩)⟩
    refine wp_sound (by rw [hi]; exact ok_X6_circleUpTo) (hd := [4, 13]) 400 _ _ _ _ _ _ ?_
    simp only [wp, stp, List.mem_cons, List.not_mem_nil, Nat.reduceEqDiff, or_false, or_self, false_or, or_true, true_or, Nat.reduceAdd, ↓reduceIte, List.getElem?_cons_zero, List.getElem?_cons_succ, nthV, List.set_cons_zero, List.set_cons_succ, noL, popA, catS, Value.category, List.length_cons, List.length_nil, Nat.reduceLT, Nat.reduceLeDiff, true_and, and_true, one0, zer1, imp_t, imp_f, ofN_nI, sdead, f20, f21, not_true_eq_false, upC_ap, upC_upC, retC, fitC, isRefT, Option.toList_some, Option.toList_none, List.cons_append, List.nil_append, Nat.lt_add_one, Nat.zero_lt_succ, Nat.le_refl, Nat.add_zero, Nat.zero_add, Nat.one_ne_zero, Nat.zero_ne_one, Nat.lt_irrefl, List.length_set, fa_X6_circleUpTo, hi, hd, hQ, mr_X6_circleUpTo]
    try simp only [m1f]
    try simp (disch := omega) only [nmod, nI_leI, nI_ltI, nI_eq, nI_clamp, vin_nI, nI_1, fa_lit, nI_add, nI_rm3, nI_rm2, pk_rem, pk_mul, pk_sub, pk_div, nI_eM, nI_Me, nI_pM, nI_pMz, nI_pM0, M1_lt, M1_le, nI_ltM, nI_leM, i8_nI, true_and, and_true, false_implies, true_implies, not_false_eq_true, not_true_eq_false, ne_eq, implies_true, Nat.not_lt_zero, Nat.zero_le, ite_min, max0, Nat.reduceLT, Nat.reduceLeDiff, Nat.reduceEqDiff, Nat.reduceAdd, Nat.reduceMul]
    try simp only [m1u]
    exact inner (tn S) 0 1 (by omega) (Or.inl ⟨rfl, fun t ht => absurd ht (Nat.not_lt_zero t)⟩)
  have loop : ∀ e u3 u4, e < m → cirS L S m = circD (fun e => eqY (tn S) (seqS L S e) (seqS L S m)) m (e + 1) → V G X 4 [.ref 28, .int (nI m), .int (nI e), u3, u4] [] n z f := by
    intro e
    induction e with
    | zero =>
      intro u3 u4 he hc
      refine step 0 u3 u4 he (fun h => by rw [hc, circD_yes h]) (fun h u3 u4 => ?_)
      rw [circD_no h] at hc
      have h4 : V G X 4 [.ref 28, .int (nI m), .int (-1), u3, u4] [] n z f := by
        refine wp_sound (by rw [hi]; exact ok_X6_circleUpTo) (hd := [4, 13]) 400 _ _ _ _ _ _ ?_
        simp only [wp, stp, List.mem_cons, List.not_mem_nil, Nat.reduceEqDiff, or_false, or_self, false_or, or_true, true_or, Nat.reduceAdd, ↓reduceIte, List.getElem?_cons_zero, List.getElem?_cons_succ, nthV, List.set_cons_zero, List.set_cons_succ, noL, popA, catS, Value.category, List.length_cons, List.length_nil, Nat.reduceLT, Nat.reduceLeDiff, true_and, and_true, one0, zer1, imp_t, imp_f, ofN_nI, sdead, f20, f21, not_true_eq_false, upC_ap, upC_upC, retC, fitC, isRefT, Option.toList_some, Option.toList_none, List.cons_append, List.nil_append, Nat.lt_add_one, Nat.zero_lt_succ, Nat.le_refl, Nat.add_zero, Nat.zero_add, Nat.one_ne_zero, Nat.zero_ne_one, Nat.lt_irrefl, List.length_set, fa_X6_circleUpTo, hi, hd, hQ, mr_X6_circleUpTo, m1_lt0]
        intro _
        exact Same.i (by rw [hc]; rfl)
      refine wp_sound (by rw [hi]; exact ok_X6_circleUpTo) (hd := [4, 13]) 400 _ _ _ _ _ _ ?_
      simp only [wp, stp, List.mem_cons, List.not_mem_nil, Nat.reduceEqDiff, or_false, or_self, false_or, or_true, true_or, Nat.reduceAdd, ↓reduceIte, List.getElem?_cons_zero, List.getElem?_cons_succ, nthV, List.set_cons_zero, List.set_cons_succ, noL, popA, catS, Value.category, List.length_cons, List.length_nil, Nat.reduceLT, Nat.reduceLeDiff, true_and, and_true, one0, zer1, imp_t, imp_f, ofN_nI, sdead, f20, f21, not_true_eq_false, upC_ap, upC_upC, retC, fitC, isRefT, Option.toList_some, Option.toList_none, List.cons_append, List.nil_append, Nat.lt_add_one, Nat.zero_lt_succ, Nat.le_refl, Nat.add_zero, Nat.zero_add, Nat.one_ne_zero, Nat.zero_ne_one, Nat.lt_irrefl, List.length_set, fa_X6_circleUpTo, hi, hd, hQ, mr_X6_circleUpTo]
      try simp only [m1f]
      try simp (disch := omega) only [nmod, nI_leI, nI_ltI, nI_eq, nI_clamp, vin_nI, nI_1, fa_lit, nI_add, nI_rm3, nI_rm2, pk_rem, pk_mul, pk_sub, pk_div, nI_eM, nI_Me, nI_pM, nI_pMz, nI_pM0, M1_lt, M1_le, nI_ltM, nI_leM, i8_nI, true_and, and_true, false_implies, true_implies, not_false_eq_true, not_true_eq_false, ne_eq, implies_true, Nat.not_lt_zero, Nat.zero_le, ite_min, max0, Nat.reduceLT, Nat.reduceLeDiff, Nat.reduceEqDiff, Nat.reduceAdd, Nat.reduceMul]
      try simp only [m1u]
      exact h4
    | succ e ih =>
      intro u3 u4 he hc
      refine step (e + 1) u3 u4 he (fun h => by rw [hc, circD_yes h]) (fun h u3 u4 => ?_)
      rw [circD_no h] at hc
      have h4 := ih u3 u4 (by omega) hc
      refine wp_sound (by rw [hi]; exact ok_X6_circleUpTo) (hd := [4, 13]) 400 _ _ _ _ _ _ ?_
      simp only [wp, stp, List.mem_cons, List.not_mem_nil, Nat.reduceEqDiff, or_false, or_self, false_or, or_true, true_or, Nat.reduceAdd, ↓reduceIte, List.getElem?_cons_zero, List.getElem?_cons_succ, nthV, List.set_cons_zero, List.set_cons_succ, noL, popA, catS, Value.category, List.length_cons, List.length_nil, Nat.reduceLT, Nat.reduceLeDiff, true_and, and_true, one0, zer1, imp_t, imp_f, ofN_nI, sdead, f20, f21, not_true_eq_false, upC_ap, upC_upC, retC, fitC, isRefT, Option.toList_some, Option.toList_none, List.cons_append, List.nil_append, Nat.lt_add_one, Nat.zero_lt_succ, Nat.le_refl, Nat.add_zero, Nat.zero_add, Nat.one_ne_zero, Nat.zero_ne_one, Nat.lt_irrefl, List.length_set, fa_X6_circleUpTo, hi, hd, hQ, mr_X6_circleUpTo]
      try simp only [m1f]
      try simp (disch := omega) only [nmod, nI_leI, nI_ltI, nI_eq, nI_clamp, vin_nI, nI_1, fa_lit, nI_add, nI_rm3, nI_rm2, pk_rem, pk_mul, pk_sub, pk_div, nI_eM, nI_Me, nI_pM, nI_pMz, nI_pM0, M1_lt, M1_le, nI_ltM, nI_leM, i8_nI, true_and, and_true, false_implies, true_implies, not_false_eq_true, not_true_eq_false, ne_eq, implies_true, Nat.not_lt_zero, Nat.zero_le, ite_min, max0, Nat.reduceLT, Nat.reduceLeDiff, Nat.reduceEqDiff, Nat.reduceAdd, Nat.reduceMul]
      try simp only [m1u]
      exact h4
  obtain ⟨e, rfl⟩ : ∃ e, m = e + 1 := ⟨m - 1, by omega⟩
  have := fun u3 u4 => loop e u3 u4 (by omega) rfl
  refine wp_sound (by rw [hi]; exact ok_X6_circleUpTo) (hd := [4, 13]) 400 _ _ _ _ _ _ ?_
  simp only [wp, stp, List.mem_cons, List.not_mem_nil, Nat.reduceEqDiff, or_false, or_self, false_or, or_true, true_or, Nat.reduceAdd, ↓reduceIte, List.getElem?_cons_zero, List.getElem?_cons_succ, nthV, List.set_cons_zero, List.set_cons_succ, noL, popA, catS, Value.category, List.length_cons, List.length_nil, Nat.reduceLT, Nat.reduceLeDiff, true_and, and_true, one0, zer1, imp_t, imp_f, ofN_nI, sdead, f20, f21, not_true_eq_false, upC_ap, upC_upC, retC, fitC, isRefT, Option.toList_some, Option.toList_none, List.cons_append, List.nil_append, Nat.lt_add_one, Nat.zero_lt_succ, Nat.le_refl, Nat.add_zero, Nat.zero_add, Nat.one_ne_zero, Nat.zero_ne_one, Nat.lt_irrefl, List.length_set, fa_X6_circleUpTo, hi, hd, hQ, mr_X6_circleUpTo]
  try simp only [m1f]
  try simp (disch := omega) only [nmod, nI_leI, nI_ltI, nI_eq, nI_clamp, vin_nI, nI_1, fa_lit, nI_add, nI_rm3, nI_rm2, pk_rem, pk_mul, pk_sub, pk_div, nI_eM, nI_Me, nI_pM, nI_pMz, nI_pM0, M1_lt, M1_le, nI_ltM, nI_leM, i8_nI, true_and, and_true, false_implies, true_implies, not_false_eq_true, not_true_eq_false, ne_eq, implies_true, Nat.not_lt_zero, Nat.zero_le, ite_min, max0, Nat.reduceLT, Nat.reduceLeDiff, Nat.reduceEqDiff, Nat.reduceAdd, Nat.reduceMul]
  try simp only [m1u]
  exact this _ _
theorem t_settle (hG : Ok G) (hd1 : 7 ≤ d) (hS : VS S) (hW : CW S L lp N Z K f n z) (hT : TV f a) {wi go pa st : Nat → Int32} (hD : DY f wi go pa) (h29 : f 29 = cI 610 st) : Tr G d 76 [.ref 28] n z f (fun v n' z' f' => v = none ∧ CW S L lp N Z K f' n' z' ∧ (∃ a', TV f' a' ∧ a' 0 = (setl L S 60 0).1 ∧ a' 1 = (setl L S 60 0).2) ∧ (∃ wi' go', DY f' wi' go' pa) ∧ (∃ st', f' 29 = cI 610 st') ∧ FRM FR f n f' ∧ n ≤ n') := by
  have hB := hS.1.1
  obtain ⟨⟨b1, b2⟩, -⟩ := id hB
  have hT0 := hT
  unfold TV at hT
  obtain ⟨Rs, hRs⟩ : ∃ Rs, Rs = setl L S 60 0 := ⟨_, rfl⟩
  rw [← hRs]
  refine Tr.of2 (ls0 := [.ref 28, dead]) hG mo_X6_settle (Nat.le_of_ble_eq_true rfl) rfl ?_
  intro X hi hd hXn hXz hXf hQ
  have h105 : ∀ r n' z' g a' wi' go' st' u1, CW (seqS L S r) L lp N Z K g n' z' → TV g a' → a' 0 = Rs.1 → a' 1 = Rs.2 → DY g wi' go' pa → g 29 = cI 610 st' → (∀ t, t < tn S → st' t = S 2 t) → FRM FR f n g → n ≤ n' → V G X 105 [.ref 28, u1] [] n' z' g := by
    intro r n' z' g a' wi' go' st' u1 hW' hT' e0 e1 hD' h29' hst hF' hn'
    obtain ⟨hv, hr⟩ := seqS_ok (L := L) hS r
    obtain ⟨c1, -, ya, -, -, -, -, -, -, -, -, c3, -, -⟩ := id hW'.1
    have t1 := hT'
    unfold TV at t1
    refine wp_sound (by rw [hi]; exact ok_X6_settle) (hd := [30, 44, 86]) 400 _ _ _ _ _ _ ?_
    simp only [wp, stp, List.mem_cons, List.not_mem_nil, Nat.reduceEqDiff, or_false, or_self, false_or, or_true, true_or, Nat.reduceAdd, ↓reduceIte, List.getElem?_cons_zero, List.getElem?_cons_succ, nthV, List.set_cons_zero, List.set_cons_succ, noL, popA, catS, Value.category, List.length_cons, List.length_nil, Nat.reduceLT, Nat.reduceLeDiff, true_and, and_true, one0, zer1, imp_t, imp_f, ofN_nI, sdead, f20, f21, not_true_eq_false, upC_ap, upC_upC, retC, fitC, isRefT, Option.toList_some, Option.toList_none, List.cons_append, List.nil_append, Nat.lt_add_one, Nat.zero_lt_succ, Nat.le_refl, Nat.add_zero, Nat.zero_add, Nat.one_ne_zero, Nat.zero_ne_one, Nat.lt_irrefl, List.length_set, fa_X6_settle, hi, hd, hQ, mr_X6_settle, c1, t1, c3, h29']
    try simp only [m1f]
    try simp (disch := omega) only [nmod, nI_leI, nI_ltI, nI_eq, nI_clamp, vin_nI, nI_1, fa_lit, nI_add, nI_rm3, nI_rm2, pk_rem, pk_mul, pk_sub, pk_div, nI_eM, nI_Me, nI_pM, nI_pMz, nI_pM0, M1_lt, M1_le, nI_ltM, nI_leM, i8_nI, true_and, and_true, false_implies, true_implies, not_false_eq_true, not_true_eq_false, ne_eq, implies_true, Nat.not_lt_zero, Nat.zero_le, ite_min, max0, Nat.reduceLT, Nat.reduceLeDiff, Nat.reduceEqDiff, Nat.reduceAdd, Nat.reduceMul]
    try simp only [m1u]
    refine ⟨by omega, hW'.camp (by rw [hr 0 (by omega)]) (by rw [hr 0 (by omega)]) (hr 1 (by omega)).symm (hW'.1.yards hr (fun t ht => ?_)) (fun x hx => upC_ne _ _ (by omega)), ⟨a', hT'.cong (upC_ne _ _ (by omega)), e0, e1⟩, ⟨wi', go', hD'.cong (fun x h1 h2 => upC_ne _ _ (by omega))⟩, ⟨st', by simpa using h29'⟩, hF'.up (by omega) (by simp), hn'⟩
    rw [pk_cpy_in (by omega) (by omega)]
    show st' (0 + (t - 0)) = _
    rw [Nat.zero_add, Nat.sub_zero]; exact hst t ht
  have loop : ∀ k' k n' z' g a' wi' go' st', k + k' = 60 → Rs = setl L S k' k → CW (seqS L S k) L lp N Z K g n' z' → TV g a' → a' 0 = -1 → a' 1 = 0 → DY g wi' go' pa → g 29 = cI 610 st' → (∀ e t, e ≤ k → t < tn S → st' (10 * e + t) = seqS L S e 2 t) → FRM FR f n g → n ≤ n' → V G X 30 [.ref 28, .int (nI k)] [] n' z' g := by
    intro k'
    induction k' with
    | zero =>
      intro k n' z' g a' wi' go' st' hk hs hW' hT' e0 e1 hD' h29' hst hF' hn'
      have : k = 60 := by omega
      subst this
      refine wp_sound (by rw [hi]; exact ok_X6_settle) (hd := [30, 44, 86, 105]) 400 _ _ _ _ _ _ ?_
      simp only [wp, stp, List.mem_cons, List.not_mem_nil, Nat.reduceEqDiff, or_false, or_self, false_or, or_true, true_or, Nat.reduceAdd, ↓reduceIte, List.getElem?_cons_zero, List.getElem?_cons_succ, nthV, List.set_cons_zero, List.set_cons_succ, noL, popA, catS, Value.category, List.length_cons, List.length_nil, Nat.reduceLT, Nat.reduceLeDiff, true_and, and_true, one0, zer1, imp_t, imp_f, ofN_nI, sdead, f20, f21, not_true_eq_false, upC_ap, upC_upC, retC, fitC, isRefT, Option.toList_some, Option.toList_none, List.cons_append, List.nil_append, Nat.lt_add_one, Nat.zero_lt_succ, Nat.le_refl, Nat.add_zero, Nat.zero_add, Nat.one_ne_zero, Nat.zero_ne_one, Nat.lt_irrefl, List.length_set, fa_X6_settle, hi, hd, hQ, mr_X6_settle]
      try simp only [m1f]
      try simp (disch := omega) only [nmod, nI_leI, nI_ltI, nI_eq, nI_clamp, vin_nI, nI_1, fa_lit, nI_add, nI_rm3, nI_rm2, pk_rem, pk_mul, pk_sub, pk_div, nI_eM, nI_Me, nI_pM, nI_pMz, nI_pM0, M1_lt, M1_le, nI_ltM, nI_leM, i8_nI, true_and, and_true, false_implies, true_implies, not_false_eq_true, not_true_eq_false, ne_eq, implies_true, Nat.not_lt_zero, Nat.zero_le, ite_min, max0, Nat.reduceLT, Nat.reduceLeDiff, Nat.reduceEqDiff, Nat.reduceAdd, Nat.reduceMul]
      try simp only [m1u]
      refine h105 60 n' z' g a' wi' go' st' _ hW' hT' (by rw [hs]; exact e0) (by rw [hs]; exact e1) hD' h29' (fun t ht => ?_) hF' hn'
      have := hst 0 t (by omega) ht
      rw [Nat.mul_zero, Nat.zero_add] at this
      exact this
    | succ k' ih =>
      intro k n' z' g a' wi' go' st' hk hs hW' hT' e0 e1 hD' h29' hst hF' hn'
      obtain ⟨hv, hr⟩ := seqS_ok (L := L) hS k
      have hst0 : ∀ t, t < tn S → st' t = S 2 t := fun t ht => by
        have := hst 0 t (by omega) ht
        rw [Nat.mul_zero, Nat.zero_add] at this
        exact this
      have t1 := hT'
      unfold TV at t1
      have d1 := hD'.1
      refine wp_sound (by rw [hi]; exact ok_X6_settle) (hd := [30, 44, 86]) 400 _ _ _ _ _ _ ?_
      simp only [wp, stp, List.mem_cons, List.not_mem_nil, Nat.reduceEqDiff, or_false, or_self, false_or, or_true, true_or, Nat.reduceAdd, ↓reduceIte, List.getElem?_cons_zero, List.getElem?_cons_succ, nthV, List.set_cons_zero, List.set_cons_succ, noL, popA, catS, Value.category, List.length_cons, List.length_nil, Nat.reduceLT, Nat.reduceLeDiff, true_and, and_true, one0, zer1, imp_t, imp_f, ofN_nI, sdead, f20, f21, not_true_eq_false, upC_ap, upC_upC, retC, fitC, isRefT, Option.toList_some, Option.toList_none, List.cons_append, List.nil_append, Nat.lt_add_one, Nat.zero_lt_succ, Nat.le_refl, Nat.add_zero, Nat.zero_add, Nat.one_ne_zero, Nat.zero_ne_one, Nat.lt_irrefl, List.length_set, fa_X6_settle, hi, hd, hQ, mr_X6_settle, t1, d1]
      try simp only [m1f]
      try simp (disch := omega) only [nmod, nI_leI, nI_ltI, nI_eq, nI_clamp, vin_nI, nI_1, fa_lit, nI_add, nI_rm3, nI_rm2, pk_rem, pk_mul, pk_sub, pk_div, nI_eM, nI_Me, nI_pM, nI_pMz, nI_pM0, M1_lt, M1_le, nI_ltM, nI_leM, i8_nI, true_and, and_true, false_implies, true_implies, not_false_eq_true, not_true_eq_false, ne_eq, implies_true, Nat.not_lt_zero, Nat.zero_le, ite_min, max0, Nat.reduceLT, Nat.reduceLeDiff, Nat.reduceEqDiff, Nat.reduceAdd, Nat.reduceMul]
      try simp only [m1u]
      refine ⟨fun h => absurd h (by omega), fun _ => ⟨by omega, _, t_noon hG (by omega) hv hW' hD' 1, ?_⟩⟩
      rintro v n1 z1 f1 ⟨rfl, hW1, ⟨wi1, go1, hD1, -⟩, hF1, hn1⟩
      have hcl : (noonS L 1 (seqS L S k)).2.2 < 2147483648 := by
        have : (noonS L 1 (seqS L S k)).2.2 ≤ tn (seqS L S k) := by
          unfold noonS; split
          · exact nn1_cnt _
          · exact nn1_cnt _
        have := hv.1.1.1.2
        omega
      obtain ⟨hv', hr'⟩ := seqS_ok (L := L) hS (k + 1)
      have hW1' : CW (seqS L S (k + 1)) L lp N Z K f1 n1 z1 := hW1
      obtain ⟨c1, -, ya, -, -, -, -, -, -, -, -, c3, c3', -⟩ := id hW1'.1
      have hT1 := hT'.cong (hF1.1 28 (by omega) (by decide))
      have t2 := hT1
      unfold TV at t2
      have h29'' : f1 29 = cI 610 st' := (hF1.1 29 (by omega) (by decide)).trans h29'
      have hFF : FRM FR f n f1 := hF'.trans hn' (hF1.mono (fun x hx => by simp at hx ⊢; omega))
      have htn : tn (seqS L S (k + 1)) = tn S := by unfold tn; rw [hr' 0 (by omega)]
      obtain ⟨cnt, hcnt⟩ : ∃ cnt, cnt = (noonS L 1 (seqS L S k)).2.2 := ⟨_, rfl⟩
      rw [setl, ← hcnt] at hs
      rw [← hcnt] at hcl ⊢
      refine wp_sound (by rw [hi]; exact ok_X6_settle) (hd := [30, 44, 86, 105]) 400 _ _ _ _ _ _ ?_
      simp only [wp, stp, List.mem_cons, List.not_mem_nil, Nat.reduceEqDiff, or_false, or_self, false_or, or_true, true_or, Nat.reduceAdd, ↓reduceIte, List.getElem?_cons_zero, List.getElem?_cons_succ, nthV, List.set_cons_zero, List.set_cons_succ, noL, popA, catS, Value.category, List.length_cons, List.length_nil, Nat.reduceLT, Nat.reduceLeDiff, true_and, and_true, one0, zer1, imp_t, imp_f, ofN_nI, sdead, f20, f21, not_true_eq_false, upC_ap, upC_upC, retC, fitC, isRefT, Option.toList_some, Option.toList_none, List.cons_append, List.nil_append, Nat.lt_add_one, Nat.zero_lt_succ, Nat.le_refl, Nat.add_zero, Nat.zero_add, Nat.one_ne_zero, Nat.zero_ne_one, Nat.lt_irrefl, List.length_set, fa_X6_settle, hi, hd, hQ, mr_X6_settle, t2, c1, c3, h29'']
      try simp only [m1f]
      try simp (disch := omega) only [nmod, nI_leI, nI_ltI, nI_eq, nI_clamp, vin_nI, nI_1, fa_lit, nI_add, nI_rm3, nI_rm2, pk_rem, pk_mul, pk_sub, pk_div, nI_eM, nI_Me, nI_pM, nI_pMz, nI_pM0, M1_lt, M1_le, nI_ltM, nI_leM, i8_nI, true_and, and_true, false_implies, true_implies, not_false_eq_true, not_true_eq_false, ne_eq, implies_true, Nat.not_lt_zero, Nat.zero_le, ite_min, max0, Nat.reduceLT, Nat.reduceLeDiff, Nat.reduceEqDiff, Nat.reduceAdd, Nat.reduceMul]
      try simp only [m1u]
      refine ⟨fun hz => ⟨by omega, by omega, by omega, ?_⟩, fun hz => ?_⟩
      · rw [if_neg hz] at hs
        have hst2 : ∀ e t, e ≤ k + 1 → t < tn S → va_cpy ya st' 0 (10 * (k + 1)) 10 (10 * e + t) = seqS L S e 2 t := fun e t he ht => by
          by_cases q : e = k + 1
          · subst q
            rw [pk_cpy_in (by omega) (by omega), show 0 + (10 * (k + 1) + t - 10 * (k + 1)) = t by omega]
            exact c3' t (by omega)
          · rw [pk_cpy_out (by omega)]
            exact hst e t (by omega) ht
        have hW2 := hW1'.lo (k := 29) (c := cI 610 (va_cpy ya st' 0 (10 * (k + 1)) 10)) (by omega) (by omega)
        refine ⟨_, t_circleUpTo (L := L) (S := S) hG b2 hW2.1 (by rw [hr' 0 (by omega)]; exact b1) (hT1.cong (upC_ne _ _ (by omega))) (upC_self _ _ _) (by omega) hst2, ?_⟩
        rintro v n2 z2 f2 ⟨rfl, rfl, rfl, rfl⟩
        have hcb : cirS L S (k + 1) ≤ k + 1 := circD_le _
        have hW3 := fun c => hW2.lo (k := 28) (c := c) (by omega) (by omega)
        have hD3 : ∀ c c', DY (upC (upC f1 29 c) 28 c') wi1 go1 pa := fun c c' => hD1.cong (fun x h1 h2 => by rw [upC_ne _ _ (by omega), upC_ne _ _ (by omega)])
        have hF3 : ∀ c c', FRM FR f n (upC (upC f1 29 c) 28 c') := fun c c' => (hFF.up (by omega) (by simp)).up (by omega) (by simp)
        have h29c : ∀ c c', upC (upC f1 29 c) 28 c' 29 = c := fun c c' => by rw [upC_ne _ _ (by omega), upC_self]
        obtain ⟨cc, hcc⟩ : ∃ cc, cc = cirS L S (k + 1) := ⟨_, rfl⟩
        rw [← hcc] at hs hcb ⊢
        refine wp_sound (by rw [hi]; exact ok_X6_settle) (hd := [30, 44, 86, 105]) 400 _ _ _ _ _ _ ?_
        simp only [wp, stp, List.mem_cons, List.not_mem_nil, Nat.reduceEqDiff, or_false, or_self, false_or, or_true, true_or, Nat.reduceAdd, ↓reduceIte, List.getElem?_cons_zero, List.getElem?_cons_succ, nthV, List.set_cons_zero, List.set_cons_succ, noL, popA, catS, Value.category, List.length_cons, List.length_nil, Nat.reduceLT, Nat.reduceLeDiff, true_and, and_true, one0, zer1, imp_t, imp_f, ofN_nI, sdead, f20, f21, not_true_eq_false, upC_ap, upC_upC, retC, fitC, isRefT, Option.toList_some, Option.toList_none, List.cons_append, List.nil_append, Nat.lt_add_one, Nat.zero_lt_succ, Nat.le_refl, Nat.add_zero, Nat.zero_add, Nat.one_ne_zero, Nat.zero_ne_one, Nat.lt_irrefl, List.length_set, fa_X6_settle, hi, hd, hQ, mr_X6_settle, t2]
        try simp only [m1f]
        try simp (disch := omega) only [nmod, nI_leI, nI_ltI, nI_eq, nI_clamp, vin_nI, nI_1, fa_lit, nI_add, nI_rm3, nI_rm2, pk_rem, pk_mul, pk_sub, pk_div, nI_eM, nI_Me, nI_pM, nI_pMz, nI_pM0, M1_lt, M1_le, nI_ltM, nI_leM, i8_nI, true_and, and_true, false_implies, true_implies, not_false_eq_true, not_true_eq_false, ne_eq, implies_true, Nat.not_lt_zero, Nat.zero_le, ite_min, max0, Nat.reduceLT, Nat.reduceLeDiff, Nat.reduceEqDiff, Nat.reduceAdd, Nat.reduceMul]
        try simp only [m1u]
        have hst3 : ∀ t, t < tn S → va_cpy ya st' 0 (10 * (k + 1)) 10 t = S 2 t := fun t ht => by
          have := hst2 0 t (by omega) ht
          rw [Nat.mul_zero, Nat.zero_add] at this
          exact this
        refine ⟨fun hz2 => ?_, fun hz2 => ?_⟩
        · have hz3 : cc = 0 := by omega
          rw [if_pos hz3] at hs
          exact ih (k + 1) n2 z2 _ (upd a' 1 (nI cc)) wi1 go1 _ (by omega) hs (hW3 _) (upC_self _ _ _) e0 (by rw [hz3]; rfl) (hD3 _ _) (h29c _ _) hst2 (hF3 _ _) (by omega)
        · have hz3 : ¬ cc = 0 := by omega
          rw [if_neg hz3] at hs
          refine h105 (k + 1) n2 z2 _ (upd a' 1 (nI cc)) wi1 go1 _ _ (hW3 _) (upC_self _ _ _) (by rw [hs]; exact e0) (by rw [hs]; rfl) (hD3 _ _) (h29c _ _) hst3 (hF3 _ _) (by omega)
      · rw [if_pos hz] at hs
        exact h105 (k + 1) n1 z1 _ (upd a' 0 (nI k)) wi1 go1 st' _ (hW1'.lo (by omega) (by omega)) (upC_self _ _ _) (by rw [hs]; rfl) (by rw [hs]; exact e1) (hD1.cong (fun x h1 h2 => upC_ne _ _ (by omega))) ((upC_ne _ _ (by omega)).trans h29'') hst0 (hFF.up (by omega) (by simp)) (by omega)
  obtain ⟨c1, -, ya, -, -, -, -, -, -, -, -, c3, c3', -⟩ := id hW.1
  refine wp_sound (by rw [hi]; exact ok_X6_settle) (hd := [30, 44, 86]) 400 _ _ _ _ _ _ ?_
  simp only [wp, stp, List.mem_cons, List.not_mem_nil, Nat.reduceEqDiff, or_false, or_self, false_or, or_true, true_or, Nat.reduceAdd, ↓reduceIte, List.getElem?_cons_zero, List.getElem?_cons_succ, nthV, List.set_cons_zero, List.set_cons_succ, noL, popA, catS, Value.category, List.length_cons, List.length_nil, Nat.reduceLT, Nat.reduceLeDiff, true_and, and_true, one0, zer1, imp_t, imp_f, ofN_nI, sdead, f20, f21, not_true_eq_false, upC_ap, upC_upC, retC, fitC, isRefT, Option.toList_some, Option.toList_none, List.cons_append, List.nil_append, Nat.lt_add_one, Nat.zero_lt_succ, Nat.le_refl, Nat.add_zero, Nat.zero_add, Nat.one_ne_zero, Nat.zero_ne_one, Nat.lt_irrefl, List.length_set, fa_X6_settle, hi, hd, hQ, mr_X6_settle, hT, c1, c3, h29]
  try simp only [m1f]
  try simp (disch := omega) only [nmod, nI_leI, nI_ltI, nI_eq, nI_clamp, vin_nI, nI_1, fa_lit, nI_add, nI_rm3, nI_rm2, pk_rem, pk_mul, pk_sub, pk_div, nI_eM, nI_Me, nI_pM, nI_pMz, nI_pM0, M1_lt, M1_le, nI_ltM, nI_leM, i8_nI, true_and, and_true, false_implies, true_implies, not_false_eq_true, not_true_eq_false, ne_eq, implies_true, Nat.not_lt_zero, Nat.zero_le, ite_min, max0, Nat.reduceLT, Nat.reduceLeDiff, Nat.reduceEqDiff, Nat.reduceAdd, Nat.reduceMul]
  try simp only [m1u]
  refine ⟨by omega, loop 60 0 n z _ (upd (upd a 0 (-1)) 1 0) wi go _ rfl hRs ((hW.lo (by omega) (by omega)).lo (by omega) (by omega)) ((upC_ne _ _ (by omega)).trans (upC_self _ _ _)) rfl rfl (hD.cong (fun x h1 h2 => by rw [upC_ne _ _ (by omega), upC_ne _ _ (by omega)])) (upC_self _ _ _) (fun e t he ht => ?_) (((FRM.refl _ _ _).up (by omega) (by simp)).up (by omega) (by simp)) (Nat.le_refl _)⟩
  have : e = 0 := by omega
  subst this
  rw [pk_cpy_in (by omega) (by omega)]
  show ya _ = S 2 t
  rw [show 0 + (10 * 0 + t - 0) = t by omega]
  exact c3' t ht
end Th4
