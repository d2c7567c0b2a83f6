-- Placings: all placings; the making
set_option maxRecDepth 100000
set_option maxHeartbeats 4000000
section Pl5
variable {G : Gam} {d n z lp N Z K tp : Nat} {f : Mf} {S : Sta} {L : Lw}
theorem t_tryAll (hG : Ok G) (hd1 : 6 ≤ d) (hS : VS S) (h36 : wdt S * hgt S ≤ 36) (h49 : 49 ≤ tp) (hn5 : tp + 5 ≤ n) (hsep : lp + 1 < tp ∨ tp + 4 < lp) (hW : CW S L lp N Z K f n z) (hl : LwP f lp L) {an pl py bs : Nat → Int32} {cn : Int32} (hPL : PL f tp an pl cn py bs) {k : Nat} (hk : k = 1 ∨ k = 2 ∨ k = 3) : Tr G d 49 [.ref tp, .int (nI k)] n z f (fun v n' z' f' => v = none ∧ (∃ an0 an' pl' cn' py' bs', an00 an0 ∧ an' = plS S L k an0 ∧ PL f' tp an' pl' cn' py' bs') ∧ CW S L lp N Z K f' n' z' ∧ LwP f' lp L ∧ FRB FP tp 5 f n f' ∧ n ≤ n') := by
  obtain ⟨p1, p2, p3, p4, p5⟩ := id hPL
  refine Tr.of2 (ls0 := [.ref tp, .int (nI k), dead, dead, dead]) hG mo_X4_tryAll (Nat.le_of_ble_eq_true rfl) rfl ?_
  intro X hi hd hXn hXz hXf hQ
  refine wp_sound (by rw [hi]; exact ok_X4_tryAll) (hd := [4, 6, 26, 30, 55, 60, 82]) 400 _ _ _ _ _ _ ?_
  simp (disch := omega) only [wp, stp, List.mem_cons, List.not_mem_nil, Nat.reduceEqDiff, or_false, or_self, false_or, or_true, true_or, Nat.reduceAdd, ↓reduceIte, List.getElem?_cons_zero, List.getElem?_cons_succ, nthV, List.set_cons_zero, List.set_cons_succ, noL, popA, catS, Value.category, List.length_cons, List.length_nil, Nat.reduceLT, Nat.reduceLeDiff, true_and, and_true, one0, zer1, imp_t, imp_f, ofN_nI, sdead, f20, f21, not_true_eq_false, upC_self, upC_ne, upC_upC, retC, fitC, isRefT, Option.toList_some, Option.toList_none, List.cons_append, List.nil_append, Nat.lt_add_one, Nat.zero_lt_succ, Nat.le_refl, Nat.add_zero, Nat.zero_add, Nat.one_ne_zero, Nat.zero_ne_one, Nat.lt_irrefl, List.length_set, fa_X4_tryAll, hi, hd, hQ, mr_X4_tryAll, p1]
  refine ⟨by omega, _, t_prepare hG (by omega) hS.1.1 h36 h49 hn5 hsep hW hl hPL, ?_⟩
  rintro v n1 z1 f1 ⟨rfl, rfl, rfl, cnt, yd, an0, pl', hcn, h00, hY, hA, hP1, hF1⟩
  have hF1 : FRB FP tp 5 f n1 f1 := hF1.mono (fun x hx => by simp at hx)
  have hc36 := hY.1
  have fin : ∀ n' z' g u2 u3 u4 an', PWd S L lp N Z K tp cnt yd an' pl' g n' z' → FRB FP tp 5 f n1 g → n1 ≤ n' → an' = plS S L k an0 → V G X 100 [.ref tp, .int (nI k), u2, u3, u4] [] n' z' g := by
    intro n' z' g u2 u3 u4 an' h1 h2 h3 h4
    refine wp_sound (by rw [hi]; exact ok_X4_tryAll) (hd := [4, 6, 26, 30, 55, 60, 82]) 400 _ _ _ _ _ _ ?_
    simp only [wp, stp, List.mem_cons, List.not_mem_nil, Nat.reduceEqDiff, or_false, or_self, false_or, or_true, true_or, Nat.reduceAdd, ↓reduceIte, List.getElem?_cons_zero, List.getElem?_cons_succ, nthV, List.set_cons_zero, List.set_cons_succ, noL, popA, catS, Value.category, List.length_cons, List.length_nil, Nat.reduceLT, Nat.reduceLeDiff, true_and, and_true, one0, zer1, imp_t, imp_f, ofN_nI, sdead, f20, f21, not_true_eq_false, upC_ap, upC_upC, retC, fitC, isRefT, Option.toList_some, Option.toList_none, List.cons_append, List.nil_append, Nat.lt_add_one, Nat.zero_lt_succ, Nat.le_refl, Nat.add_zero, Nat.zero_add, Nat.one_ne_zero, Nat.zero_ne_one, Nat.lt_irrefl, List.length_set, fa_X4_tryAll, hi, hd, hQ, mr_X4_tryAll]
    obtain ⟨⟨hW', hl'⟩, py', bs', hPL', -, -⟩ := h1
    exact ⟨⟨an0, an', pl', nI cnt, py', bs', h00, h4, hPL'⟩, hW', hl', h2, h3⟩
  have hcT : ∀ {g n' z' an'}, PWd S L lp N Z K tp cnt yd an' pl' g n' z' → g tp = cO 4 [.ref (tp + 1), .ref 1, .ref 20, .ref (tp + 2), .int (nI cnt), .ref (tp + 3), .ref (tp + 4)] := fun h => by obtain ⟨-, py', bs', hPL', -, -⟩ := h; exact hPL'.1
  rcases hk with rfl | rfl | rfl
  · -- one
    have eS : plS S L 1 an0 = fY (gsN S) (fun an p => jdA S L an p none none) 100 0 an0 := if_pos rfl
    rw [eS, fY_0 hY hA] at fin
    obtain ⟨R, hR⟩ : ∃ R, R = fY (gsN S) (fun an p => jdA S L an p none none) (100 - nx cnt yd 0) (nx cnt yd 0) an0 := ⟨_, rfl⟩
    rw [← hR] at fin
    have loop : ∀ j a n' z' g u3 u4 an', a + j = cnt → R = fY (gsN S) (fun an p => jdA S L an p none none) (100 - nx cnt yd a) (nx cnt yd a) an' → PWd S L lp N Z K tp cnt yd an' pl' g n' z' → FRB FP tp 5 f n1 g → n1 ≤ n' → V G X 6 [.ref tp, .int (nI 1), .int (nI a), u3, u4] [] n' z' g := by
      intro j
      induction j with
      | zero =>
        intro a n' z' g u3 u4 an' ha hr q1 q2 q3
        have : a = cnt := by omega
        subst this
        rw [fY_e] at hr
        have t1 := hcT q1
        refine wp_sound (by rw [hi]; exact ok_X4_tryAll) (hd := [4, 6, 26, 30, 55, 60, 82, 100]) 400 _ _ _ _ _ _ ?_
        simp only [wp, stp, List.mem_cons, List.not_mem_nil, Nat.reduceEqDiff, or_false, or_self, false_or, or_true, true_or, Nat.reduceAdd, ↓reduceIte, List.getElem?_cons_zero, List.getElem?_cons_succ, nthV, List.set_cons_zero, List.set_cons_succ, noL, popA, catS, Value.category, List.length_cons, List.length_nil, Nat.reduceLT, Nat.reduceLeDiff, true_and, and_true, one0, zer1, imp_t, imp_f, ofN_nI, sdead, f20, f21, not_true_eq_false, upC_ap, upC_upC, retC, fitC, isRefT, Option.toList_some, Option.toList_none, List.cons_append, List.nil_append, Nat.lt_add_one, Nat.zero_lt_succ, Nat.le_refl, Nat.add_zero, Nat.zero_add, Nat.one_ne_zero, Nat.zero_ne_one, Nat.lt_irrefl, List.length_set, fa_X4_tryAll, hi, hd, hQ, mr_X4_tryAll, t1]
        try simp only [m1f]
        try simp (disch := omega) only [nmod, nI_leI, nI_ltI, nI_eq, nI_clamp, vin_nI, nI_1, fa_lit, nI_add, nI_rm3, nI_rm2, pk_rem, pk_mul, pk_sub, pk_div, nI_eM, nI_Me, nI_pM, nI_pMz, nI_pM0, M1_lt, M1_le, nI_ltM, nI_leM, i8_nI, true_and, and_true, false_implies, true_implies, not_false_eq_true, not_true_eq_false, ne_eq, implies_true, Nat.not_lt_zero, Nat.zero_le, ite_min, max0, Nat.reduceLT, Nat.reduceLeDiff, Nat.reduceEqDiff, Nat.reduceAdd, Nat.reduceMul]
        try simp only [m1u]
        exact ⟨fun _ => fin _ _ _ _ _ _ an' q1 q2 q3 hr.symm, fun h => absurd (Nat.le_refl _) h⟩
      | succ j ih =>
        intro a n' z' g u3 u4 an' ha hr q1 q2 q3
        have t1 := hcT q1
        refine wp_sound (by rw [hi]; exact ok_X4_tryAll) (hd := [4, 6, 26, 30, 55, 60, 82, 100]) 400 _ _ _ _ _ _ ?_
        simp only [wp, stp, List.mem_cons, List.not_mem_nil, Nat.reduceEqDiff, or_false, or_self, false_or, or_true, true_or, Nat.reduceAdd, ↓reduceIte, List.getElem?_cons_zero, List.getElem?_cons_succ, nthV, List.set_cons_zero, List.set_cons_succ, noL, popA, catS, Value.category, List.length_cons, List.length_nil, Nat.reduceLT, Nat.reduceLeDiff, true_and, and_true, one0, zer1, imp_t, imp_f, ofN_nI, sdead, f20, f21, not_true_eq_false, upC_ap, upC_upC, retC, fitC, isRefT, Option.toList_some, Option.toList_none, List.cons_append, List.nil_append, Nat.lt_add_one, Nat.zero_lt_succ, Nat.le_refl, Nat.add_zero, Nat.zero_add, Nat.one_ne_zero, Nat.zero_ne_one, Nat.lt_irrefl, List.length_set, fa_X4_tryAll, hi, hd, hQ, mr_X4_tryAll, t1]
        try simp only [m1f]
        try simp (disch := omega) only [nmod, nI_leI, nI_ltI, nI_eq, nI_clamp, vin_nI, nI_1, fa_lit, nI_add, nI_rm3, nI_rm2, pk_rem, pk_mul, pk_sub, pk_div, nI_eM, nI_Me, nI_pM, nI_pMz, nI_pM0, M1_lt, M1_le, nI_ltM, nI_leM, i8_nI, true_and, and_true, false_implies, true_implies, not_false_eq_true, not_true_eq_false, ne_eq, implies_true, Nat.not_lt_zero, Nat.zero_le, ite_min, max0, Nat.reduceLT, Nat.reduceLeDiff, Nat.reduceEqDiff, Nat.reduceAdd, Nat.reduceMul]
        try simp only [m1u]
        refine ⟨fun h => absurd h (by omega), fun _ => ⟨by omega, _, t_judge (b := none) (c := none) hG (by omega) hS h36 h49 (by omega) hsep hY hA q1 (show a < cnt by omega) trivial trivial (fun _ _ h => by cases h), ?_⟩⟩
        rintro v n2 z2 f2 ⟨rfl, hP2, hF2, hn2⟩
        have t2 := hcT hP2
        rw [fY_at hY hA (show a < cnt by omega)] at hr
        refine wp_sound (by rw [hi]; exact ok_X4_tryAll) (hd := [4, 6, 26, 30, 55, 60, 82]) 400 _ _ _ _ _ _ ?_
        simp only [wp, stp, List.mem_cons, List.not_mem_nil, Nat.reduceEqDiff, or_false, or_self, false_or, or_true, true_or, Nat.reduceAdd, ↓reduceIte, List.getElem?_cons_zero, List.getElem?_cons_succ, nthV, List.set_cons_zero, List.set_cons_succ, noL, popA, catS, Value.category, List.length_cons, List.length_nil, Nat.reduceLT, Nat.reduceLeDiff, true_and, and_true, one0, zer1, imp_t, imp_f, ofN_nI, sdead, f20, f21, not_true_eq_false, upC_ap, upC_upC, retC, fitC, isRefT, Option.toList_some, Option.toList_none, List.cons_append, List.nil_append, Nat.lt_add_one, Nat.zero_lt_succ, Nat.le_refl, Nat.add_zero, Nat.zero_add, Nat.one_ne_zero, Nat.zero_ne_one, Nat.lt_irrefl, List.length_set, fa_X4_tryAll, hi, hd, hQ, mr_X4_tryAll, t2]
        try simp only [m1f]
        try simp (disch := omega) only [nmod, nI_leI, nI_ltI, nI_eq, nI_clamp, vin_nI, nI_1, fa_lit, nI_add, nI_rm3, nI_rm2, pk_rem, pk_mul, pk_sub, pk_div, nI_eM, nI_Me, nI_pM, nI_pMz, nI_pM0, M1_lt, M1_le, nI_ltM, nI_leM, i8_nI, true_and, and_true, false_implies, true_implies, not_false_eq_true, not_true_eq_false, ne_eq, implies_true, Nat.not_lt_zero, Nat.zero_le, ite_min, max0, Nat.reduceLT, Nat.reduceLeDiff, Nat.reduceEqDiff, Nat.reduceAdd, Nat.reduceMul]
        try simp only [m1u]
        have h94 : ∀ u3, V G X 94 [.ref tp, .int (nI 1), .int (nI a), u3, u4] [] n2 z2 f2 := by
          intro u3
          refine wp_sound (by rw [hi]; exact ok_X4_tryAll) (hd := [4, 6, 26, 30, 55, 60, 82]) 400 _ _ _ _ _ _ ?_
          simp only [wp, stp, List.mem_cons, List.not_mem_nil, Nat.reduceEqDiff, or_false, or_self, false_or, or_true, true_or, Nat.reduceAdd, ↓reduceIte, List.getElem?_cons_zero, List.getElem?_cons_succ, nthV, List.set_cons_zero, List.set_cons_succ, noL, popA, catS, Value.category, List.length_cons, List.length_nil, Nat.reduceLT, Nat.reduceLeDiff, true_and, and_true, one0, zer1, imp_t, imp_f, ofN_nI, sdead, f20, f21, not_true_eq_false, upC_ap, upC_upC, retC, fitC, isRefT, Option.toList_some, Option.toList_none, List.cons_append, List.nil_append, Nat.lt_add_one, Nat.zero_lt_succ, Nat.le_refl, Nat.add_zero, Nat.zero_add, Nat.one_ne_zero, Nat.zero_ne_one, Nat.lt_irrefl, List.length_set, fa_X4_tryAll, hi, hd, hQ, mr_X4_tryAll]
          try simp only [m1f]
          try simp (disch := omega) only [nmod, nI_leI, nI_ltI, nI_eq, nI_clamp, vin_nI, nI_1, fa_lit, nI_add, nI_rm3, nI_rm2, pk_rem, pk_mul, pk_sub, pk_div, nI_eM, nI_Me, nI_pM, nI_pMz, nI_pM0, M1_lt, M1_le, nI_ltM, nI_leM, i8_nI, true_and, and_true, false_implies, true_implies, not_false_eq_true, not_true_eq_false, ne_eq, implies_true, Nat.not_lt_zero, Nat.zero_le, ite_min, max0, Nat.reduceLT, Nat.reduceLeDiff, Nat.reduceEqDiff, Nat.reduceAdd, Nat.reduceMul]
          try simp only [m1u]
          exact ih (a + 1) n2 z2 f2 u3 u4 _ (by omega) hr hP2 (q2.trans q3 hF2) (by omega)
        refine wp_sound (by rw [hi]; exact ok_X4_tryAll) (hd := [4, 6, 26, 30, 55, 60, 82, 94]) 400 _ _ _ _ _ _ ?_
        simp only [wp, stp, List.mem_cons, List.not_mem_nil, Nat.reduceEqDiff, or_false, or_self, false_or, or_true, true_or, Nat.reduceAdd, ↓reduceIte, List.getElem?_cons_zero, List.getElem?_cons_succ, nthV, List.set_cons_zero, List.set_cons_succ, noL, popA, catS, Value.category, List.length_cons, List.length_nil, Nat.reduceLT, Nat.reduceLeDiff, true_and, and_true, one0, zer1, imp_t, imp_f, ofN_nI, sdead, f20, f21, not_true_eq_false, upC_ap, upC_upC, retC, fitC, isRefT, Option.toList_some, Option.toList_none, List.cons_append, List.nil_append, Nat.lt_add_one, Nat.zero_lt_succ, Nat.le_refl, Nat.add_zero, Nat.zero_add, Nat.one_ne_zero, Nat.zero_ne_one, Nat.lt_irrefl, List.length_set, fa_X4_tryAll, hi, hd, hQ, mr_X4_tryAll, t2]
        try simp only [m1f]
        try simp (disch := omega) only [nmod, nI_leI, nI_ltI, nI_eq, nI_clamp, vin_nI, nI_1, fa_lit, nI_add, nI_rm3, nI_rm2, pk_rem, pk_mul, pk_sub, pk_div, nI_eM, nI_Me, nI_pM, nI_pMz, nI_pM0, M1_lt, M1_le, nI_ltM, nI_leM, i8_nI, true_and, and_true, false_implies, true_implies, not_false_eq_true, not_true_eq_false, ne_eq, implies_true, Nat.not_lt_zero, Nat.zero_le, ite_min, max0, Nat.reduceLT, Nat.reduceLeDiff, Nat.reduceEqDiff, Nat.reduceAdd, Nat.reduceMul]
        try simp only [m1u]
        exact ⟨fun _ => h94 _, fun _ => h94 _⟩
    refine wp_sound (by rw [hi]; exact ok_X4_tryAll) (hd := [4, 6, 26, 30, 55, 60, 82]) 400 _ _ _ _ _ _ ?_
    simp only [wp, stp, List.mem_cons, List.not_mem_nil, Nat.reduceEqDiff, or_false, or_self, false_or, or_true, true_or, Nat.reduceAdd, ↓reduceIte, List.getElem?_cons_zero, List.getElem?_cons_succ, nthV, List.set_cons_zero, List.set_cons_succ, noL, popA, catS, Value.category, List.length_cons, List.length_nil, Nat.reduceLT, Nat.reduceLeDiff, true_and, and_true, one0, zer1, imp_t, imp_f, ofN_nI, sdead, f20, f21, not_true_eq_false, upC_ap, upC_upC, retC, fitC, isRefT, Option.toList_some, Option.toList_none, List.cons_append, List.nil_append, Nat.lt_add_one, Nat.zero_lt_succ, Nat.le_refl, Nat.add_zero, Nat.zero_add, Nat.one_ne_zero, Nat.zero_ne_one, Nat.lt_irrefl, List.length_set, fa_X4_tryAll, hi, hd, hQ, mr_X4_tryAll]
    try simp only [m1f]
    try simp (disch := omega) only [nmod, nI_leI, nI_ltI, nI_eq, nI_clamp, vin_nI, nI_1, fa_lit, nI_add, nI_rm3, nI_rm2, pk_rem, pk_mul, pk_sub, pk_div, nI_eM, nI_Me, nI_pM, nI_pMz, nI_pM0, M1_lt, M1_le, nI_ltM, nI_leM, i8_nI, true_and, and_true, false_implies, true_implies, not_false_eq_true, not_true_eq_false, ne_eq, implies_true, Nat.not_lt_zero, Nat.zero_le, ite_min, max0, Nat.reduceLT, Nat.reduceLeDiff, Nat.reduceEqDiff, Nat.reduceAdd, Nat.reduceMul]
    try simp only [m1u]
    exact loop cnt 0 _ _ _ _ _ an0 (by omega) hR hP1 hF1 (Nat.le_refl _)
  · sorry
  · sorry
end Pl5
