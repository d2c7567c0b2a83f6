-- Placings: all placings; the making
set_option maxRecDepth 100000
set_option maxHeartbeats 4000000
section Pl5
variable {G : Gam} {d n z lp N Z K tp : Nat} {f : Mf} {S : Sta} {L : Lw}
theorem t_tryAll (hG : Ok G) (hd1 : 6 ≤ d) (hS : VS S) (h36 : wdt S * hgt S ≤ 36) (h49 : 49 ≤ tp) (hn5 : tp + 5 ≤ n) (hsep : lp + 1 < tp ∨ tp + 4 < lp) (hW : CW S L lp N Z K f n z) (hl : LwP f lp L) {an pl py bs : Nat → Int32} {cn : Int32} (hPL : PL f tp an pl cn py bs) {k : Nat} (hk : k = 1 ∨ k = 2 ∨ k = 3) : Tr G d 49 [.ref tp, .int (nI k)] n z f (fun v n' z' f' => v = none ∧ (∃ an0 an' pl' cn' py' bs', an00 an0 ∧ an' = plS S L k an0 ∧ PL f' tp an' pl' cn' py' bs') ∧ CW S L lp N Z K f' n' z' ∧ LwP f' lp L ∧ FRB FP tp 5 f n f' ∧ n ≤ n') := by
  obtain ⟨p1, p2, p3, p4, p5⟩ := id hPL
  refine Tr.of2 (ls0 := [.ref tp, .int (nI k), dead, dead, dead]) hG mo_X4_tryAll (Nat.le_of_ble_eq_true rfl) rfl ?_
  intro X hi hd hXn hXz hXf hQ
  refine wp_sound (by rw [hi]; exact ok_X4_tryAll) (hd := [4, 6, 26, 30, 55, 60, 82]) 400 _ _ _ _ _ _ ?_
  simp (disch := omega) only [wp, stp, List.mem_cons, List.not_mem_nil, Nat.reduceEqDiff, or_false, or_self, false_or, or_true, true_or, Nat.reduceAdd, ↓reduceIte, List.getElem?_cons_zero, List.getElem?_cons_succ, nthV, List.set_cons_zero, List.set_cons_succ, noL, popA, catS, Value.category, List.length_cons, List.length_nil, Nat.reduceLT, Nat.reduceLeDiff, true_and, and_true, one0, zer1, imp_t, imp_f, ofN_nI, sdead, f20, f21, not_true_eq_false, upC_self, upC_ne, upC_upC, retC, fitC, isRefT, Option.toList_some, Option.toList_none, List.cons_append, List.nil_append, Nat.lt_add_one, Nat.zero_lt_succ, Nat.le_refl, Nat.add_zero, Nat.zero_add, Nat.one_ne_zero, Nat.zero_ne_one, Nat.lt_irrefl, List.length_set, fa_X4_tryAll, hi, hd, hQ, mr_X4_tryAll, p1]
  refine ⟨by omega, _, t_prepare hG (by omega) hS.1.1 h36 h49 hn5 hsep hW hl hPL, ?_⟩
  rintro v n1 z1 f1 ⟨rfl, rfl, rfl, cnt, yd, an0, pl', hcn, h00, hY, hA, hP1, hF1⟩
  have hF1 : FRB FP tp 5 f n1 f1 := hF1.mono (fun x hx => by simp at hx)
  have hc36 := hY.1
  have fin : ∀ n' z' g u2 u3 u4 an', PWd S L lp N Z K tp cnt yd an' pl' g n' z' → FRB FP tp 5 f n1 g → n1 ≤ n' → an' = plS S L k an0 → V G X 100 [.ref tp, .int (nI k), u2, u3, u4] [] n' z' g := by
    intro n' z' g u2 u3 u4 an' h1 h2 h3 h4
    refine wp_sound (by rw [hi]; exact ok_X4_tryAll) (hd := [4, 6, 26, 30, 55, 60, 82]) 400 _ _ _ _ _ _ ?_
    simp only [wp, stp, List.mem_cons, List.not_mem_nil, Nat.reduceEqDiff, or_false, or_self, false_or, or_true, true_or, Nat.reduceAdd, ↓reduceIte, List.getElem?_cons_zero, List.getElem?_cons_succ, nthV, List.set_cons_zero, List.set_cons_succ, noL, popA, catS, Value.category, List.length_cons, List.length_nil, Nat.reduceLT, Nat.reduceLeDiff, true_and, and_true, one0, zer1, imp_t, imp_f, ofN_nI, sdead, f20, f21, not_true_eq_false, upC_ap, upC_upC, retC, fitC, isRefT, Option.toList_some, Option.toList_none, List.cons_append, List.nil_append, Nat.lt_add_one, Nat.zero_lt_succ, Nat.le_refl, Nat.add_zero, Nat.zero_add, Nat.one_ne_zero, Nat.zero_ne_one, Nat.lt_irrefl, List.length_set, fa_X4_tryAll, hi, hd, hQ, mr_X4_tryAll]
    obtain ⟨⟨hW', hl'⟩, py', bs', hPL', -, -⟩ := h1
    exact ⟨⟨an0, an', pl', nI cnt, py', bs', h00, h4, hPL'⟩, hW', hl', h2, h3⟩
  have hcT : ∀ {g n' z' an'}, PWd S L lp N Z K tp cnt yd an' pl' g n' z' → g tp = cO 4 [.ref (tp + 1), .ref 1, .ref 20, .ref (tp + 2), .int (nI cnt), .ref (tp + 3), .ref (tp + 4)] := fun h => by obtain ⟨-, py', bs', hPL', -, -⟩ := h; exact hPL'.1
  rcases hk with rfl | rfl | rfl
  · -- one
    have eS : plS S L 1 an0 = fY (gsN S) (fun an p => jdA S L an p none none) 100 0 an0 := if_pos rfl
    rw [eS, fY_0 hY hA] at fin
    obtain ⟨R, hR⟩ : ∃ R, R = fY (gsN S) (fun an p => jdA S L an p none none) (100 - nx cnt yd 0) (nx cnt yd 0) an0 := ⟨_, rfl⟩
    rw [← hR] at fin
    have loop : ∀ j a n' z' g u3 u4 an', a + j = cnt → R = fY (gsN S) (fun an p => jdA S L an p none none) (100 - nx cnt yd a) (nx cnt yd a) an' → PWd S L lp N Z K tp cnt yd an' pl' g n' z' → FRB FP tp 5 f n1 g → n1 ≤ n' → V G X 6 [.ref tp, .int (nI 1), .int (nI a), u3, u4] [] n' z' g := by
      intro j
      induction j with
      | zero =>
        intro a n' z' g u3 u4 an' ha hr q1 q2 q3
        have : a = cnt := by omega
        subst this
        rw [fY_e] at hr
        have t1 := hcT q1
        refine wp_sound (by rw [hi]; exact ok_X4_tryAll) (hd := [4, 6, 26, 30, 55, 60, 82, 100]) 400 _ _ _ _ _ _ ?_
        simp only [wp, stp, List.mem_cons, List.not_mem_nil, Nat.reduceEqDiff, or_false, or_self, false_or, or_true, true_or, Nat.reduceAdd, ↓reduceIte, List.getElem?_cons_zero, List.getElem?_cons_succ, nthV, List.set_cons_zero, List.set_cons_succ, noL, popA, catS, Value.category, List.length_cons, List.length_nil, Nat.reduceLT, Nat.reduceLeDiff, true_and, and_true, one0, zer1, imp_t, imp_f, ofN_nI, sdead, f20, f21, not_true_eq_false, upC_ap, upC_upC, retC, fitC, isRefT, Option.toList_some, Option.toList_none, List.cons_append, List.nil_append, Nat.lt_add_one, Nat.zero_lt_succ, Nat.le_refl, Nat.add_zero, Nat.zero_add, Nat.one_ne_zero, Nat.zero_ne_one, Nat.lt_irrefl, List.length_set, fa_X4_tryAll, hi, hd, hQ, mr_X4_tryAll, t1]
        try simp only [m1f]
        try simp (disch := omega) only [nmod, nI_leI, nI_ltI, nI_eq, nI_clamp, vin_nI, nI_1, fa_lit, nI_add, nI_rm3, nI_rm2, pk_rem, pk_mul, pk_sub, pk_div, nI_eM, nI_Me, nI_pM, nI_pMz, nI_pM0, M1_lt, M1_le, nI_ltM, nI_leM, i8_nI, true_and, and_true, false_implies, true_implies, not_false_eq_true, not_true_eq_false, ne_eq, implies_true, Nat.not_lt_zero, Nat.zero_le, ite_min, max0, Nat.reduceLT, Nat.reduceLeDiff, Nat.reduceEqDiff, Nat.reduceAdd, Nat.reduceMul]
        try simp only [m1u]
        exact ⟨fun _ => fin _ _ _ _ _ _ an' q1 q2 q3 hr.symm, fun h => absurd (Nat.le_refl _) h⟩
      | succ j ih =>
        intro a n' z' g u3 u4 an' ha hr q1 q2 q3
        have t1 := hcT q1
        refine wp_sound (by rw [hi]; exact ok_X4_tryAll) (hd := [4, 6, 26, 30, 55, 60, 82, 100]) 400 _ _ _ _ _ _ ?_
        simp only [wp, stp, List.mem_cons, List.not_mem_nil, Nat.reduceEqDiff, or_false, or_self, false_or, or_true, true_or, Nat.reduceAdd, ↓reduceIte, List.getElem?_cons_zero, List.getElem?_cons_succ, nthV, List.set_cons_zero, List.set_cons_succ, noL, popA, catS, Value.category, List.length_cons, List.length_nil, Nat.reduceLT, Nat.reduceLeDiff, true_and, and_true, one0, zer1, imp_t, imp_f, ofN_nI, sdead, f20, f21, not_true_eq_false, upC_ap, upC_upC, retC, fitC, isRefT, Option.toList_some, Option.toList_none, List.cons_append, List.nil_append, Nat.lt_add_one, Nat.zero_lt_succ, Nat.le_refl, Nat.add_zero, Nat.zero_add, Nat.one_ne_zero, Nat.zero_ne_one, Nat.lt_irrefl, List.length_set, fa_X4_tryAll, hi, hd, hQ, mr_X4_tryAll, t1]
        try simp only [m1f]
        try simp (disch := omega) only [nmod, nI_leI, nI_ltI, nI_eq, nI_clamp, vin_nI, nI_1, fa_lit, nI_add, nI_rm3, nI_rm2, pk_rem, pk_mul, pk_sub, pk_div, nI_eM, nI_Me, nI_pM, nI_pMz, nI_pM0, M1_lt, M1_le, nI_ltM, nI_leM, i8_nI, true_and, and_true, false_implies, true_implies, not_false_eq_true, not_true_eq_false, ne_eq, implies_true, Nat.not_lt_zero, Nat.zero_le, ite_min, max0, Nat.reduceLT, Nat.reduceLeDiff, Nat.reduceEqDiff, Nat.reduceAdd, Nat.reduceMul]
        try simp only [m1u]
        refine ⟨fun h => absurd h (by omega), fun _ => ⟨by omega, _, t_judge (b := none) (c := none) hG (by omega) hS h36 h49 (by omega) hsep hY hA q1 (show a < cnt by omega) trivial trivial (fun _ _ h => by cases h), ?_⟩⟩
        rintro v n2 z2 f2 ⟨rfl, hP2, hF2, hn2⟩
        have t2 := hcT hP2
        rw [fY_at hY hA (show a < cnt by omega)] at hr
        refine wp_sound (by rw [hi]; exact ok_X4_tryAll) (hd := [4, 6, 26, 30, 55, 60, 82]) 400 _ _ _ _ _ _ ?_
        simp only [wp, stp, List.mem_cons, List.not_mem_nil, Nat.reduceEqDiff, or_false, or_self, false_or, or_true, true_or, Nat.reduceAdd, ↓reduceIte, List.getElem?_cons_zero, List.getElem?_cons_succ, nthV, List.set_cons_zero, List.set_cons_succ, noL, popA, catS, Value.category, List.length_cons, List.length_nil, Nat.reduceLT, Nat.reduceLeDiff, true_and, and_true, one0, zer1, imp_t, imp_f, ofN_nI, sdead, f20, f21, not_true_eq_false, upC_ap, upC_upC, retC, fitC, isRefT, Option.toList_some, Option.toList_none, List.cons_append, List.nil_append, Nat.lt_add_one, Nat.zero_lt_succ, Nat.le_refl, Nat.add_zero, Nat.zero_add, Nat.one_ne_zero, Nat.zero_ne_one, Nat.lt_irrefl, List.length_set, fa_X4_tryAll, hi, hd, hQ, mr_X4_tryAll, t2]
        try simp only [m1f]
        try simp (disch := omega) only [nmod, nI_leI, nI_ltI, nI_eq, nI_clamp, vin_nI, nI_1, fa_lit, nI_add, nI_rm3, nI_rm2, pk_rem, pk_mul, pk_sub, pk_div, nI_eM, nI_Me, nI_pM, nI_pMz, nI_pM0, M1_lt, M1_le, nI_ltM, nI_leM, i8_nI, true_and, and_true, false_implies, true_implies, not_false_eq_true, not_true_eq_false, ne_eq, implies_true, Nat.not_lt_zero, Nat.zero_le, ite_min, max0, Nat.reduceLT, Nat.reduceLeDiff, Nat.reduceEqDiff, Nat.reduceAdd, Nat.reduceMul]
        try simp only [m1u]
        have h94 : ∀ u3, V G X 94 [.ref tp, .int (nI 1), .int (nI a), u3, u4] [] n2 z2 f2 := by
          intro u3
          refine wp_sound (by rw [hi]; exact ok_X4_tryAll) (hd := [4, 6, 26, 30, 55, 60, 82]) 400 _ _ _ _ _ _ ?_
          simp only [wp, stp, List.mem_cons, List.not_mem_nil, Nat.reduceEqDiff, or_false, or_self, false_or, or_true, true_or, Nat.reduceAdd, ↓reduceIte, List.getElem?_cons_zero, List.getElem?_cons_succ, nthV, List.set_cons_zero, List.set_cons_succ, noL, popA, catS, Value.category, List.length_cons, List.length_nil, Nat.reduceLT, Nat.reduceLeDiff, true_and, and_true, one0, zer1, imp_t, imp_f, ofN_nI, sdead, f20, f21, not_true_eq_false, upC_ap, upC_upC, retC, fitC, isRefT, Option.toList_some, Option.toList_none, List.cons_append, List.nil_append, Nat.lt_add_one, Nat.zero_lt_succ, Nat.le_refl, Nat.add_zero, Nat.zero_add, Nat.one_ne_zero, Nat.zero_ne_one, Nat.lt_irrefl, List.length_set, fa_X4_tryAll, hi, hd, hQ, mr_X4_tryAll]
          try simp only [m1f]
          try simp (disch := omega) only [nmod, nI_leI, nI_ltI, nI_eq, nI_clamp, vin_nI, nI_1, fa_lit, nI_add, nI_rm3, nI_rm2, pk_rem, pk_mul, pk_sub, pk_div, nI_eM, nI_Me, nI_pM, nI_pMz, nI_pM0, M1_lt, M1_le, nI_ltM, nI_leM, i8_nI, true_and, and_true, false_implies, true_implies, not_false_eq_true, not_true_eq_false, ne_eq, implies_true, Nat.not_lt_zero, Nat.zero_le, ite_min, max0, Nat.reduceLT, Nat.reduceLeDiff, Nat.reduceEqDiff, Nat.reduceAdd, Nat.reduceMul]
          try simp only [m1u]
          exact ih (a + 1) n2 z2 f2 u3 u4 _ (by omega) hr hP2 (q2.trans q3 hF2) (by omega)
        refine wp_sound (by rw [hi]; exact ok_X4_tryAll) (hd := [4, 6, 26, 30, 55, 60, 82, 94]) 400 _ _ _ _ _ _ ?_
        simp only [wp, stp, List.mem_cons, List.not_mem_nil, Nat.reduceEqDiff, or_false, or_self, false_or, or_true, true_or, Nat.reduceAdd, ↓reduceIte, List.getElem?_cons_zero, List.getElem?_cons_succ, nthV, List.set_cons_zero, List.set_cons_succ, noL, popA, catS, Value.category, List.length_cons, List.length_nil, Nat.reduceLT, Nat.reduceLeDiff, true_and, and_true, one0, zer1, imp_t, imp_f, ofN_nI, sdead, f20, f21, not_true_eq_false, upC_ap, upC_upC, retC, fitC, isRefT, Option.toList_some, Option.toList_none, List.cons_append, List.nil_append, Nat.lt_add_one, Nat.zero_lt_succ, Nat.le_refl, Nat.add_zero, Nat.zero_add, Nat.one_ne_zero, Nat.zero_ne_one, Nat.lt_irrefl, List.length_set, fa_X4_tryAll, hi, hd, hQ, mr_X4_tryAll, t2]
        try simp only [m1f]
        try simp (disch := omega) only [nmod, nI_leI, nI_ltI, nI_eq, nI_clamp, vin_nI, nI_1, fa_lit, nI_add, nI_rm3, nI_rm2, pk_rem, pk_mul, pk_sub, pk_div, nI_eM, nI_Me, nI_pM, nI_pMz, nI_pM0, M1_lt, M1_le, nI_ltM, nI_leM, i8_nI, true_and, and_true, false_implies, true_implies, not_false_eq_true, not_true_eq_false, ne_eq, implies_true, Nat.not_lt_zero, Nat.zero_le, ite_min, max0, Nat.reduceLT, Nat.reduceLeDiff, Nat.reduceEqDiff, Nat.reduceAdd, Nat.reduceMul]
        try simp only [m1u]
        exact ⟨fun _ => h94 _, fun _ => h94 _⟩
    refine wp_sound (by rw [hi]; exact ok_X4_tryAll) (hd := [4, 6, 26, 30, 55, 60, 82]) 400 _ _ _ _ _ _ ?_
    simp only [wp, stp, List.mem_cons, List.not_mem_nil, Nat.reduceEqDiff, or_false, or_self, false_or, or_true, true_or, Nat.reduceAdd, ↓reduceIte, List.getElem?_cons_zero, List.getElem?_cons_succ, nthV, List.set_cons_zero, List.set_cons_succ, noL, popA, catS, Value.category, List.length_cons, List.length_nil, Nat.reduceLT, Nat.reduceLeDiff, true_and, and_true, one0, zer1, imp_t, imp_f, ofN_nI, sdead, f20, f21, not_true_eq_false, upC_ap, upC_upC, retC, fitC, isRefT, Option.toList_some, Option.toList_none, List.cons_append, List.nil_append, Nat.lt_add_one, Nat.zero_lt_succ, Nat.le_refl, Nat.add_zero, Nat.zero_add, Nat.one_ne_zero, Nat.zero_ne_one, Nat.lt_irrefl, List.length_set, fa_X4_tryAll, hi, hd, hQ, mr_X4_tryAll]
    try simp only [m1f]
    try simp (disch := omega) only [nmod, nI_leI, nI_ltI, nI_eq, nI_clamp, vin_nI, nI_1, fa_lit, nI_add, nI_rm3, nI_rm2, pk_rem, pk_mul, pk_sub, pk_div, nI_eM, nI_Me, nI_pM, nI_pMz, nI_pM0, M1_lt, M1_le, nI_ltM, nI_leM, i8_nI, true_and, and_true, false_implies, true_implies, not_false_eq_true, not_true_eq_false, ne_eq, implies_true, Nat.not_lt_zero, Nat.zero_le, ite_min, max0, Nat.reduceLT, Nat.reduceLeDiff, Nat.reduceEqDiff, Nat.reduceAdd, Nat.reduceMul]
    try simp only [m1u]
    exact loop cnt 0 _ _ _ _ _ an0 (by omega) hR hP1 hF1 (Nat.le_refl _)
  · -- two
    have eS : plS S L 2 an0 = fY (gsN S) (fun an p => fY (gsN S) (fun an q => jdA S L an p (some q) none) (99 - p) (p + 1) an) 100 0 an0 := rfl
    rw [eS, fY_0 hY hA] at fin
    obtain ⟨R, hR⟩ : ∃ R, R = fY (gsN S) (fun an p => fY (gsN S) (fun an q => jdA S L an p (some q) none) (99 - p) (p + 1) an) (100 - nx cnt yd 0) (nx cnt yd 0) an0 := ⟨_, rfl⟩
    rw [← hR] at fin
    have loop : ∀ j a n' z' g u3 u4 an', a + j = cnt → R = fY (gsN S) (fun an p => fY (gsN S) (fun an q => jdA S L an p (some q) none) (99 - p) (p + 1) an) (100 - nx cnt yd a) (nx cnt yd a) an' → PWd S L lp N Z K tp cnt yd an' pl' g n' z' → FRB FP tp 5 f n1 g → n1 ≤ n' → V G X 6 [.ref tp, .int (nI 2), .int (nI a), u3, u4] [] n' z' g := by
      intro j
      induction j with
      | zero =>
        intro a n' z' g u3 u4 an' ha hr q1 q2 q3
        have : a = cnt := by omega
        subst this
        rw [fY_e] at hr
        have t1 := hcT q1
        refine wp_sound (by rw [hi]; exact ok_X4_tryAll) (hd := [4, 6, 26, 30, 55, 60, 82, 100]) 400 _ _ _ _ _ _ ?_
        simp only [wp, stp, List.mem_cons, List.not_mem_nil, Nat.reduceEqDiff, or_false, or_self, false_or, or_true, true_or, Nat.reduceAdd, ↓reduceIte, List.getElem?_cons_zero, List.getElem?_cons_succ, nthV, List.set_cons_zero, List.set_cons_succ, noL, popA, catS, Value.category, List.length_cons, List.length_nil, Nat.reduceLT, Nat.reduceLeDiff, true_and, and_true, one0, zer1, imp_t, imp_f, ofN_nI, sdead, f20, f21, not_true_eq_false, upC_ap, upC_upC, retC, fitC, isRefT, Option.toList_some, Option.toList_none, List.cons_append, List.nil_append, Nat.lt_add_one, Nat.zero_lt_succ, Nat.le_refl, Nat.add_zero, Nat.zero_add, Nat.one_ne_zero, Nat.zero_ne_one, Nat.lt_irrefl, List.length_set, fa_X4_tryAll, hi, hd, hQ, mr_X4_tryAll, t1]
        try simp only [m1f]
        try simp (disch := omega) only [nmod, nI_leI, nI_ltI, nI_eq, nI_clamp, vin_nI, nI_1, fa_lit, nI_add, nI_rm3, nI_rm2, pk_rem, pk_mul, pk_sub, pk_div, nI_eM, nI_Me, nI_pM, nI_pMz, nI_pM0, M1_lt, M1_le, nI_ltM, nI_leM, i8_nI, true_and, and_true, false_implies, true_implies, not_false_eq_true, not_true_eq_false, ne_eq, implies_true, Nat.not_lt_zero, Nat.zero_le, ite_min, max0, Nat.reduceLT, Nat.reduceLeDiff, Nat.reduceEqDiff, Nat.reduceAdd, Nat.reduceMul]
        try simp only [m1u]
        exact ⟨fun _ => fin _ _ _ _ _ _ an' q1 q2 q3 hr.symm, fun h => absurd (Nat.le_refl _) h⟩
      | succ j ih =>
        intro a n' z' g u3 u4 an' ha hr q1 q2 q3
        have hac : a < cnt := by omega
        rw [fY_at hY hA hac] at hr
        try dsimp only at hr
        rw [fY_in hY hA hac] at hr
        obtain ⟨Ri, hRi⟩ : ∃ Ri, Ri = fY (gsN S) (fun an q => jdA S L an (yd a) (some q) none) (100 - nx cnt yd (a + 1)) (nx cnt yd (a + 1)) an' := ⟨_, rfl⟩
        rw [← hRi] at hr
        have h94 : ∀ n' z' g u3 u4, PWd S L lp N Z K tp cnt yd Ri pl' g n' z' → FRB FP tp 5 f n1 g → n1 ≤ n' → V G X 94 [.ref tp, .int (nI 2), .int (nI a), u3, u4] [] n' z' g := by
          intro n' z' g u3 u4 r1 r2 r3
          refine wp_sound (by rw [hi]; exact ok_X4_tryAll) (hd := [4, 6, 26, 30, 55, 60, 82]) 400 _ _ _ _ _ _ ?_
          simp only [wp, stp, List.mem_cons, List.not_mem_nil, Nat.reduceEqDiff, or_false, or_self, false_or, or_true, true_or, Nat.reduceAdd, ↓reduceIte, List.getElem?_cons_zero, List.getElem?_cons_succ, nthV, List.set_cons_zero, List.set_cons_succ, noL, popA, catS, Value.category, List.length_cons, List.length_nil, Nat.reduceLT, Nat.reduceLeDiff, true_and, and_true, one0, zer1, imp_t, imp_f, ofN_nI, sdead, f20, f21, not_true_eq_false, upC_ap, upC_upC, retC, fitC, isRefT, Option.toList_some, Option.toList_none, List.cons_append, List.nil_append, Nat.lt_add_one, Nat.zero_lt_succ, Nat.le_refl, Nat.add_zero, Nat.zero_add, Nat.one_ne_zero, Nat.zero_ne_one, Nat.lt_irrefl, List.length_set, fa_X4_tryAll, hi, hd, hQ, mr_X4_tryAll]
          try simp only [m1f]
          try simp (disch := omega) only [nmod, nI_leI, nI_ltI, nI_eq, nI_clamp, vin_nI, nI_1, fa_lit, nI_add, nI_rm3, nI_rm2, pk_rem, pk_mul, pk_sub, pk_div, nI_eM, nI_Me, nI_pM, nI_pMz, nI_pM0, M1_lt, M1_le, nI_ltM, nI_leM, i8_nI, true_and, and_true, false_implies, true_implies, not_false_eq_true, not_true_eq_false, ne_eq, implies_true, Nat.not_lt_zero, Nat.zero_le, ite_min, max0, Nat.reduceLT, Nat.reduceLeDiff, Nat.reduceEqDiff, Nat.reduceAdd, Nat.reduceMul]
          try simp only [m1u]
          exact ih (a + 1) n' z' g u3 u4 _ (by omega) hr r1 r2 r3
        have inner : ∀ j b n' z' g u4 an', b + j = cnt → a < b → Ri = fY (gsN S) (fun an q => jdA S L an (yd a) (some q) none) (100 - nx cnt yd b) (nx cnt yd b) an' → PWd S L lp N Z K tp cnt yd an' pl' g n' z' → FRB FP tp 5 f n1 g → n1 ≤ n' → V G X 30 [.ref tp, .int (nI 2), .int (nI a), .int (nI b), u4] [] n' z' g := by
          intro j
          induction j with
          | zero =>
            intro b n' z' g u4 an' hb hab hr q1 q2 q3
            have : b = cnt := by omega
            subst this
            rw [fY_e] at hr
            have t1 := hcT q1
            refine wp_sound (by rw [hi]; exact ok_X4_tryAll) (hd := [4, 6, 26, 30, 55, 60, 82, 94]) 400 _ _ _ _ _ _ ?_
            simp only [wp, stp, List.mem_cons, List.not_mem_nil, Nat.reduceEqDiff, or_false, or_self, false_or, or_true, true_or, Nat.reduceAdd, ↓reduceIte, List.getElem?_cons_zero, List.getElem?_cons_succ, nthV, List.set_cons_zero, List.set_cons_succ, noL, popA, catS, Value.category, List.length_cons, List.length_nil, Nat.reduceLT, Nat.reduceLeDiff, true_and, and_true, one0, zer1, imp_t, imp_f, ofN_nI, sdead, f20, f21, not_true_eq_false, upC_ap, upC_upC, retC, fitC, isRefT, Option.toList_some, Option.toList_none, List.cons_append, List.nil_append, Nat.lt_add_one, Nat.zero_lt_succ, Nat.le_refl, Nat.add_zero, Nat.zero_add, Nat.one_ne_zero, Nat.zero_ne_one, Nat.lt_irrefl, List.length_set, fa_X4_tryAll, hi, hd, hQ, mr_X4_tryAll, t1]
            try simp only [m1f]
            try simp (disch := omega) only [nmod, nI_leI, nI_ltI, nI_eq, nI_clamp, vin_nI, nI_1, fa_lit, nI_add, nI_rm3, nI_rm2, pk_rem, pk_mul, pk_sub, pk_div, nI_eM, nI_Me, nI_pM, nI_pMz, nI_pM0, M1_lt, M1_le, nI_ltM, nI_leM, i8_nI, true_and, and_true, false_implies, true_implies, not_false_eq_true, not_true_eq_false, ne_eq, implies_true, Nat.not_lt_zero, Nat.zero_le, ite_min, max0, Nat.reduceLT, Nat.reduceLeDiff, Nat.reduceEqDiff, Nat.reduceAdd, Nat.reduceMul]
            try simp only [m1u]
            exact ⟨fun _ => h94 _ _ _ _ _ (hr ▸ q1) q2 q3, fun h => absurd (Nat.le_refl _) h⟩
          | succ j ih2 =>
            intro b n' z' g u4 an' hb hab hr q1 q2 q3
            have t1 := hcT q1
            have hbc : b < cnt := by omega
            rw [fY_at hY hA hbc] at hr
            refine wp_sound (by rw [hi]; exact ok_X4_tryAll) (hd := [4, 6, 26, 30, 55, 60, 82, 94]) 400 _ _ _ _ _ _ ?_
            simp only [wp, stp, List.mem_cons, List.not_mem_nil, Nat.reduceEqDiff, or_false, or_self, false_or, or_true, true_or, Nat.reduceAdd, ↓reduceIte, List.getElem?_cons_zero, List.getElem?_cons_succ, nthV, List.set_cons_zero, List.set_cons_succ, noL, popA, catS, Value.category, List.length_cons, List.length_nil, Nat.reduceLT, Nat.reduceLeDiff, true_and, and_true, one0, zer1, imp_t, imp_f, ofN_nI, sdead, f20, f21, not_true_eq_false, upC_ap, upC_upC, retC, fitC, isRefT, Option.toList_some, Option.toList_none, List.cons_append, List.nil_append, Nat.lt_add_one, Nat.zero_lt_succ, Nat.le_refl, Nat.add_zero, Nat.zero_add, Nat.one_ne_zero, Nat.zero_ne_one, Nat.lt_irrefl, List.length_set, fa_X4_tryAll, hi, hd, hQ, mr_X4_tryAll, t1]
            try simp only [m1f]
            try simp (disch := omega) only [nmod, nI_leI, nI_ltI, nI_eq, nI_clamp, vin_nI, nI_1, fa_lit, nI_add, nI_rm3, nI_rm2, pk_rem, pk_mul, pk_sub, pk_div, nI_eM, nI_Me, nI_pM, nI_pMz, nI_pM0, M1_lt, M1_le, nI_ltM, nI_leM, i8_nI, true_and, and_true, false_implies, true_implies, not_false_eq_true, not_true_eq_false, ne_eq, implies_true, Nat.not_lt_zero, Nat.zero_le, ite_min, max0, Nat.reduceLT, Nat.reduceLeDiff, Nat.reduceEqDiff, Nat.reduceAdd, Nat.reduceMul]
            try simp only [m1u]
            refine ⟨fun h => absurd h (by omega), fun _ => ⟨by omega, _, t_judge (b := some b) (c := none) hG (by omega) hS h36 h49 (by omega) hsep hY hA q1 hac ⟨hbc, by omega⟩ trivial (fun _ _ _ h => by cases h), ?_⟩⟩
            rintro v n2 z2 f2 ⟨rfl, hP2, hF2, hn2⟩
            have t2 := hcT hP2
            refine wp_sound (by rw [hi]; exact ok_X4_tryAll) (hd := [4, 6, 26, 30, 55, 60, 82]) 400 _ _ _ _ _ _ ?_
            simp only [wp, stp, List.mem_cons, List.not_mem_nil, Nat.reduceEqDiff, or_false, or_self, false_or, or_true, true_or, Nat.reduceAdd, ↓reduceIte, List.getElem?_cons_zero, List.getElem?_cons_succ, nthV, List.set_cons_zero, List.set_cons_succ, noL, popA, catS, Value.category, List.length_cons, List.length_nil, Nat.reduceLT, Nat.reduceLeDiff, true_and, and_true, one0, zer1, imp_t, imp_f, ofN_nI, sdead, f20, f21, not_true_eq_false, upC_ap, upC_upC, retC, fitC, isRefT, Option.toList_some, Option.toList_none, List.cons_append, List.nil_append, Nat.lt_add_one, Nat.zero_lt_succ, Nat.le_refl, Nat.add_zero, Nat.zero_add, Nat.one_ne_zero, Nat.zero_ne_one, Nat.lt_irrefl, List.length_set, fa_X4_tryAll, hi, hd, hQ, mr_X4_tryAll, t2]
            try simp only [m1f]
            try simp (disch := omega) only [nmod, nI_leI, nI_ltI, nI_eq, nI_clamp, vin_nI, nI_1, fa_lit, nI_add, nI_rm3, nI_rm2, pk_rem, pk_mul, pk_sub, pk_div, nI_eM, nI_Me, nI_pM, nI_pMz, nI_pM0, M1_lt, M1_le, nI_ltM, nI_leM, i8_nI, true_and, and_true, false_implies, true_implies, not_false_eq_true, not_true_eq_false, ne_eq, implies_true, Nat.not_lt_zero, Nat.zero_le, ite_min, max0, Nat.reduceLT, Nat.reduceLeDiff, Nat.reduceEqDiff, Nat.reduceAdd, Nat.reduceMul]
            try simp only [m1u]
            have h88 : ∀ u4, V G X 88 [.ref tp, .int (nI 2), .int (nI a), .int (nI b), u4] [] n2 z2 f2 := by
              intro u4
              refine wp_sound (by rw [hi]; exact ok_X4_tryAll) (hd := [4, 6, 26, 30, 55, 60, 82]) 400 _ _ _ _ _ _ ?_
              simp only [wp, stp, List.mem_cons, List.not_mem_nil, Nat.reduceEqDiff, or_false, or_self, false_or, or_true, true_or, Nat.reduceAdd, ↓reduceIte, List.getElem?_cons_zero, List.getElem?_cons_succ, nthV, List.set_cons_zero, List.set_cons_succ, noL, popA, catS, Value.category, List.length_cons, List.length_nil, Nat.reduceLT, Nat.reduceLeDiff, true_and, and_true, one0, zer1, imp_t, imp_f, ofN_nI, sdead, f20, f21, not_true_eq_false, upC_ap, upC_upC, retC, fitC, isRefT, Option.toList_some, Option.toList_none, List.cons_append, List.nil_append, Nat.lt_add_one, Nat.zero_lt_succ, Nat.le_refl, Nat.add_zero, Nat.zero_add, Nat.one_ne_zero, Nat.zero_ne_one, Nat.lt_irrefl, List.length_set, fa_X4_tryAll, hi, hd, hQ, mr_X4_tryAll]
              try simp only [m1f]
              try simp (disch := omega) only [nmod, nI_leI, nI_ltI, nI_eq, nI_clamp, vin_nI, nI_1, fa_lit, nI_add, nI_rm3, nI_rm2, pk_rem, pk_mul, pk_sub, pk_div, nI_eM, nI_Me, nI_pM, nI_pMz, nI_pM0, M1_lt, M1_le, nI_ltM, nI_leM, i8_nI, true_and, and_true, false_implies, true_implies, not_false_eq_true, not_true_eq_false, ne_eq, implies_true, Nat.not_lt_zero, Nat.zero_le, ite_min, max0, Nat.reduceLT, Nat.reduceLeDiff, Nat.reduceEqDiff, Nat.reduceAdd, Nat.reduceMul]
              try simp only [m1u]
              exact ih2 (b + 1) n2 z2 f2 u4 _ (by omega) (by omega) hr hP2 (q2.trans q3 hF2) (by omega)
            refine wp_sound (by rw [hi]; exact ok_X4_tryAll) (hd := [4, 6, 26, 30, 55, 60, 82, 88]) 400 _ _ _ _ _ _ ?_
            simp only [wp, stp, List.mem_cons, List.not_mem_nil, Nat.reduceEqDiff, or_false, or_self, false_or, or_true, true_or, Nat.reduceAdd, ↓reduceIte, List.getElem?_cons_zero, List.getElem?_cons_succ, nthV, List.set_cons_zero, List.set_cons_succ, noL, popA, catS, Value.category, List.length_cons, List.length_nil, Nat.reduceLT, Nat.reduceLeDiff, true_and, and_true, one0, zer1, imp_t, imp_f, ofN_nI, sdead, f20, f21, not_true_eq_false, upC_ap, upC_upC, retC, fitC, isRefT, Option.toList_some, Option.toList_none, List.cons_append, List.nil_append, Nat.lt_add_one, Nat.zero_lt_succ, Nat.le_refl, Nat.add_zero, Nat.zero_add, Nat.one_ne_zero, Nat.zero_ne_one, Nat.lt_irrefl, List.length_set, fa_X4_tryAll, hi, hd, hQ, mr_X4_tryAll, t2]
            try simp only [m1f]
            try simp (disch := omega) only [nmod, nI_leI, nI_ltI, nI_eq, nI_clamp, vin_nI, nI_1, fa_lit, nI_add, nI_rm3, nI_rm2, pk_rem, pk_mul, pk_sub, pk_div, nI_eM, nI_Me, nI_pM, nI_pMz, nI_pM0, M1_lt, M1_le, nI_ltM, nI_leM, i8_nI, true_and, and_true, false_implies, true_implies, not_false_eq_true, not_true_eq_false, ne_eq, implies_true, Nat.not_lt_zero, Nat.zero_le, ite_min, max0, Nat.reduceLT, Nat.reduceLeDiff, Nat.reduceEqDiff, Nat.reduceAdd, Nat.reduceMul]
            try simp only [m1u]
            exact ⟨fun _ => h88 _, fun _ => h88 _⟩
        have t1 := hcT q1
        refine wp_sound (by rw [hi]; exact ok_X4_tryAll) (hd := [4, 6, 30, 55, 60, 82, 100]) 400 _ _ _ _ _ _ ?_
        simp only [wp, stp, List.mem_cons, List.not_mem_nil, Nat.reduceEqDiff, or_false, or_self, false_or, or_true, true_or, Nat.reduceAdd, ↓reduceIte, List.getElem?_cons_zero, List.getElem?_cons_succ, nthV, List.set_cons_zero, List.set_cons_succ, noL, popA, catS, Value.category, List.length_cons, List.length_nil, Nat.reduceLT, Nat.reduceLeDiff, true_and, and_true, one0, zer1, imp_t, imp_f, ofN_nI, sdead, f20, f21, not_true_eq_false, upC_ap, upC_upC, retC, fitC, isRefT, Option.toList_some, Option.toList_none, List.cons_append, List.nil_append, Nat.lt_add_one, Nat.zero_lt_succ, Nat.le_refl, Nat.add_zero, Nat.zero_add, Nat.one_ne_zero, Nat.zero_ne_one, Nat.lt_irrefl, List.length_set, fa_X4_tryAll, hi, hd, hQ, mr_X4_tryAll, t1]
        try simp only [m1f]
        try simp (disch := omega) only [nmod, nI_leI, nI_ltI, nI_eq, nI_clamp, vin_nI, nI_1, fa_lit, nI_add, nI_rm3, nI_rm2, pk_rem, pk_mul, pk_sub, pk_div, nI_eM, nI_Me, nI_pM, nI_pMz, nI_pM0, M1_lt, M1_le, nI_ltM, nI_leM, i8_nI, true_and, and_true, false_implies, true_implies, not_false_eq_true, not_true_eq_false, ne_eq, implies_true, Nat.not_lt_zero, Nat.zero_le, ite_min, max0, Nat.reduceLT, Nat.reduceLeDiff, Nat.reduceEqDiff, Nat.reduceAdd, Nat.reduceMul]
        try simp only [m1u]
        exact ⟨fun h => absurd h (by omega), fun _ => inner (cnt - (a + 1)) (a + 1) n' z' g u4 an' (by omega) (by omega) hRi q1 q2 q3⟩
    refine wp_sound (by rw [hi]; exact ok_X4_tryAll) (hd := [4, 6, 26, 30, 55, 60, 82]) 400 _ _ _ _ _ _ ?_
    simp only [wp, stp, List.mem_cons, List.not_mem_nil, Nat.reduceEqDiff, or_false, or_self, false_or, or_true, true_or, Nat.reduceAdd, ↓reduceIte, List.getElem?_cons_zero, List.getElem?_cons_succ, nthV, List.set_cons_zero, List.set_cons_succ, noL, popA, catS, Value.category, List.length_cons, List.length_nil, Nat.reduceLT, Nat.reduceLeDiff, true_and, and_true, one0, zer1, imp_t, imp_f, ofN_nI, sdead, f20, f21, not_true_eq_false, upC_ap, upC_upC, retC, fitC, isRefT, Option.toList_some, Option.toList_none, List.cons_append, List.nil_append, Nat.lt_add_one, Nat.zero_lt_succ, Nat.le_refl, Nat.add_zero, Nat.zero_add, Nat.one_ne_zero, Nat.zero_ne_one, Nat.lt_irrefl, List.length_set, fa_X4_tryAll, hi, hd, hQ, mr_X4_tryAll]
    try simp only [m1f]
    try simp (disch := omega) only [nmod, nI_leI, nI_ltI, nI_eq, nI_clamp, vin_nI, nI_1, fa_lit, nI_add, nI_rm3, nI_rm2, pk_rem, pk_mul, pk_sub, pk_div, nI_eM, nI_Me, nI_pM, nI_pMz, nI_pM0, M1_lt, M1_le, nI_ltM, nI_leM, i8_nI, true_and, and_true, false_implies, true_implies, not_false_eq_true, not_true_eq_false, ne_eq, implies_true, Nat.not_lt_zero, Nat.zero_le, ite_min, max0, Nat.reduceLT, Nat.reduceLeDiff, Nat.reduceEqDiff, Nat.reduceAdd, Nat.reduceMul]
    try simp only [m1u]
    exact loop cnt 0 _ _ _ _ _ an0 (by omega) hR hP1 hF1 (Nat.le_refl _)
  · -- three
    have eS : plS S L 3 an0 = fY (gsN S) (fun an p => fY (gsN S) (fun an q => fY (gsN S) (fun an r => jdA S L an p (some q) (some r)) (99 - q) (q + 1) an) (99 - p) (p + 1) an) 100 0 an0 := rfl
    rw [eS, fY_0 hY hA] at fin
    obtain ⟨R, hR⟩ : ∃ R, R = fY (gsN S) (fun an p => fY (gsN S) (fun an q => fY (gsN S) (fun an r => jdA S L an p (some q) (some r)) (99 - q) (q + 1) an) (99 - p) (p + 1) an) (100 - nx cnt yd 0) (nx cnt yd 0) an0 := ⟨_, rfl⟩
    rw [← hR] at fin
    have loop : ∀ j a n' z' g u3 u4 an', a + j = cnt → R = fY (gsN S) (fun an p => fY (gsN S) (fun an q => fY (gsN S) (fun an r => jdA S L an p (some q) (some r)) (99 - q) (q + 1) an) (99 - p) (p + 1) an) (100 - nx cnt yd a) (nx cnt yd a) an' → PWd S L lp N Z K tp cnt yd an' pl' g n' z' → FRB FP tp 5 f n1 g → n1 ≤ n' → V G X 6 [.ref tp, .int (nI 3), .int (nI a), u3, u4] [] n' z' g := by
      intro j
      induction j with
      | zero =>
        intro a n' z' g u3 u4 an' ha hr q1 q2 q3
        have : a = cnt := by omega
        subst this
        rw [fY_e] at hr
        have t1 := hcT q1
        refine wp_sound (by rw [hi]; exact ok_X4_tryAll) (hd := [4, 6, 26, 30, 55, 60, 82, 100]) 400 _ _ _ _ _ _ ?_
        simp only [wp, stp, List.mem_cons, List.not_mem_nil, Nat.reduceEqDiff, or_false, or_self, false_or, or_true, true_or, Nat.reduceAdd, ↓reduceIte, List.getElem?_cons_zero, List.getElem?_cons_succ, nthV, List.set_cons_zero, List.set_cons_succ, noL, popA, catS, Value.category, List.length_cons, List.length_nil, Nat.reduceLT, Nat.reduceLeDiff, true_and, and_true, one0, zer1, imp_t, imp_f, ofN_nI, sdead, f20, f21, not_true_eq_false, upC_ap, upC_upC, retC, fitC, isRefT, Option.toList_some, Option.toList_none, List.cons_append, List.nil_append, Nat.lt_add_one, Nat.zero_lt_succ, Nat.le_refl, Nat.add_zero, Nat.zero_add, Nat.one_ne_zero, Nat.zero_ne_one, Nat.lt_irrefl, List.length_set, fa_X4_tryAll, hi, hd, hQ, mr_X4_tryAll, t1]
        try simp only [m1f]
        try simp (disch := omega) only [nmod, nI_leI, nI_ltI, nI_eq, nI_clamp, vin_nI, nI_1, fa_lit, nI_add, nI_rm3, nI_rm2, pk_rem, pk_mul, pk_sub, pk_div, nI_eM, nI_Me, nI_pM, nI_pMz, nI_pM0, M1_lt, M1_le, nI_ltM, nI_leM, i8_nI, true_and, and_true, false_implies, true_implies, not_false_eq_true, not_true_eq_false, ne_eq, implies_true, Nat.not_lt_zero, Nat.zero_le, ite_min, max0, Nat.reduceLT, Nat.reduceLeDiff, Nat.reduceEqDiff, Nat.reduceAdd, Nat.reduceMul]
        try simp only [m1u]
        exact ⟨fun _ => fin _ _ _ _ _ _ an' q1 q2 q3 hr.symm, fun h => absurd (Nat.le_refl _) h⟩
      | succ j ih =>
        intro a n' z' g u3 u4 an' ha hr q1 q2 q3
        have hac : a < cnt := by omega
        rw [fY_at hY hA hac] at hr
        try dsimp only at hr
        rw [fY_in hY hA hac] at hr
        obtain ⟨Ri, hRi⟩ : ∃ Ri, Ri = fY (gsN S) (fun an q => fY (gsN S) (fun an r => jdA S L an (yd a) (some q) (some r)) (99 - q) (q + 1) an) (100 - nx cnt yd (a + 1)) (nx cnt yd (a + 1)) an' := ⟨_, rfl⟩
        rw [← hRi] at hr
        have h94 : ∀ n' z' g u3 u4, PWd S L lp N Z K tp cnt yd Ri pl' g n' z' → FRB FP tp 5 f n1 g → n1 ≤ n' → V G X 94 [.ref tp, .int (nI 3), .int (nI a), u3, u4] [] n' z' g := by
          intro n' z' g u3 u4 r1 r2 r3
          refine wp_sound (by rw [hi]; exact ok_X4_tryAll) (hd := [4, 6, 26, 30, 55, 60, 82]) 400 _ _ _ _ _ _ ?_
          simp only [wp, stp, List.mem_cons, List.not_mem_nil, Nat.reduceEqDiff, or_false, or_self, false_or, or_true, true_or, Nat.reduceAdd, ↓reduceIte, List.getElem?_cons_zero, List.getElem?_cons_succ, nthV, List.set_cons_zero, List.set_cons_succ, noL, popA, catS, Value.category, List.length_cons, List.length_nil, Nat.reduceLT, Nat.reduceLeDiff, true_and, and_true, one0, zer1, imp_t, imp_f, ofN_nI, sdead, f20, f21, not_true_eq_false, upC_ap, upC_upC, retC, fitC, isRefT, Option.toList_some, Option.toList_none, List.cons_append, List.nil_append, Nat.lt_add_one, Nat.zero_lt_succ, Nat.le_refl, Nat.add_zero, Nat.zero_add, Nat.one_ne_zero, Nat.zero_ne_one, Nat.lt_irrefl, List.length_set, fa_X4_tryAll, hi, hd, hQ, mr_X4_tryAll]
          try simp only [m1f]
          try simp (disch := omega) only [nmod, nI_leI, nI_ltI, nI_eq, nI_clamp, vin_nI, nI_1, fa_lit, nI_add, nI_rm3, nI_rm2, pk_rem, pk_mul, pk_sub, pk_div, nI_eM, nI_Me, nI_pM, nI_pMz, nI_pM0, M1_lt, M1_le, nI_ltM, nI_leM, i8_nI, true_and, and_true, false_implies, true_implies, not_false_eq_true, not_true_eq_false, ne_eq, implies_true, Nat.not_lt_zero, Nat.zero_le, ite_min, max0, Nat.reduceLT, Nat.reduceLeDiff, Nat.reduceEqDiff, Nat.reduceAdd, Nat.reduceMul]
          try simp only [m1u]
          exact ih (a + 1) n' z' g u3 u4 _ (by omega) hr r1 r2 r3
        have inner : ∀ j b n' z' g u4 an', b + j = cnt → a < b → Ri = fY (gsN S) (fun an q => fY (gsN S) (fun an r => jdA S L an (yd a) (some q) (some r)) (99 - q) (q + 1) an) (100 - nx cnt yd b) (nx cnt yd b) an' → PWd S L lp N Z K tp cnt yd an' pl' g n' z' → FRB FP tp 5 f n1 g → n1 ≤ n' → V G X 30 [.ref tp, .int (nI 3), .int (nI a), .int (nI b), u4] [] n' z' g := by
          intro j
          induction j with
          | zero =>
            intro b n' z' g u4 an' hb hab hr q1 q2 q3
            have : b = cnt := by omega
            subst this
            rw [fY_e] at hr
            have t1 := hcT q1
            refine wp_sound (by rw [hi]; exact ok_X4_tryAll) (hd := [4, 6, 26, 30, 55, 60, 82, 94]) 400 _ _ _ _ _ _ ?_
            simp only [wp, stp, List.mem_cons, List.not_mem_nil, Nat.reduceEqDiff, or_false, or_self, false_or, or_true, true_or, Nat.reduceAdd, ↓reduceIte, List.getElem?_cons_zero, List.getElem?_cons_succ, nthV, List.set_cons_zero, List.set_cons_succ, noL, popA, catS, Value.category, List.length_cons, List.length_nil, Nat.reduceLT, Nat.reduceLeDiff, true_and, and_true, one0, zer1, imp_t, imp_f, ofN_nI, sdead, f20, f21, not_true_eq_false, upC_ap, upC_upC, retC, fitC, isRefT, Option.toList_some, Option.toList_none, List.cons_append, List.nil_append, Nat.lt_add_one, Nat.zero_lt_succ, Nat.le_refl, Nat.add_zero, Nat.zero_add, Nat.one_ne_zero, Nat.zero_ne_one, Nat.lt_irrefl, List.length_set, fa_X4_tryAll, hi, hd, hQ, mr_X4_tryAll, t1]
            try simp only [m1f]
            try simp (disch := omega) only [nmod, nI_leI, nI_ltI, nI_eq, nI_clamp, vin_nI, nI_1, fa_lit, nI_add, nI_rm3, nI_rm2, pk_rem, pk_mul, pk_sub, pk_div, nI_eM, nI_Me, nI_pM, nI_pMz, nI_pM0, M1_lt, M1_le, nI_ltM, nI_leM, i8_nI, true_and, and_true, false_implies, true_implies, not_false_eq_true, not_true_eq_false, ne_eq, implies_true, Nat.not_lt_zero, Nat.zero_le, ite_min, max0, Nat.reduceLT, Nat.reduceLeDiff, Nat.reduceEqDiff, Nat.reduceAdd, Nat.reduceMul]
            try simp only [m1u]
            exact ⟨fun _ => h94 _ _ _ _ _ (hr ▸ q1) q2 q3, fun h => absurd (Nat.le_refl _) h⟩
          | succ j ih2 =>
            intro b n' z' g u4 an' hb hab hr q1 q2 q3
            have t1 := hcT q1
            have hbc : b < cnt := by omega
            rw [fY_at hY hA hbc] at hr
            try dsimp only at hr
            rw [fY_in hY hA hbc] at hr
            obtain ⟨Rj, hRj⟩ : ∃ Rj, Rj = fY (gsN S) (fun an r => jdA S L an (yd a) (some (yd b)) (some r)) (100 - nx cnt yd (b + 1)) (nx cnt yd (b + 1)) an' := ⟨_, rfl⟩
            rw [← hRj] at hr
            have h88 : ∀ n' z' g u4, PWd S L lp N Z K tp cnt yd Rj pl' g n' z' → FRB FP tp 5 f n1 g → n1 ≤ n' → V G X 88 [.ref tp, .int (nI 3), .int (nI a), .int (nI b), u4] [] n' z' g := by
              intro n' z' g u4 r1 r2 r3
              refine wp_sound (by rw [hi]; exact ok_X4_tryAll) (hd := [4, 6, 26, 30, 55, 60, 82]) 400 _ _ _ _ _ _ ?_
              simp only [wp, stp, List.mem_cons, List.not_mem_nil, Nat.reduceEqDiff, or_false, or_self, false_or, or_true, true_or, Nat.reduceAdd, ↓reduceIte, List.getElem?_cons_zero, List.getElem?_cons_succ, nthV, List.set_cons_zero, List.set_cons_succ, noL, popA, catS, Value.category, List.length_cons, List.length_nil, Nat.reduceLT, Nat.reduceLeDiff, true_and, and_true, one0, zer1, imp_t, imp_f, ofN_nI, sdead, f20, f21, not_true_eq_false, upC_ap, upC_upC, retC, fitC, isRefT, Option.toList_some, Option.toList_none, List.cons_append, List.nil_append, Nat.lt_add_one, Nat.zero_lt_succ, Nat.le_refl, Nat.add_zero, Nat.zero_add, Nat.one_ne_zero, Nat.zero_ne_one, Nat.lt_irrefl, List.length_set, fa_X4_tryAll, hi, hd, hQ, mr_X4_tryAll]
              try simp only [m1f]
              try simp (disch := omega) only [nmod, nI_leI, nI_ltI, nI_eq, nI_clamp, vin_nI, nI_1, fa_lit, nI_add, nI_rm3, nI_rm2, pk_rem, pk_mul, pk_sub, pk_div, nI_eM, nI_Me, nI_pM, nI_pMz, nI_pM0, M1_lt, M1_le, nI_ltM, nI_leM, i8_nI, true_and, and_true, false_implies, true_implies, not_false_eq_true, not_true_eq_false, ne_eq, implies_true, Nat.not_lt_zero, Nat.zero_le, ite_min, max0, Nat.reduceLT, Nat.reduceLeDiff, Nat.reduceEqDiff, Nat.reduceAdd, Nat.reduceMul]
              try simp only [m1u]
              exact ih2 (b + 1) n' z' g u4 _ (by omega) (by omega) hr r1 r2 r3
            have inn : ∀ j c n' z' g an', c + j = cnt → b < c → Rj = fY (gsN S) (fun an r => jdA S L an (yd a) (some (yd b)) (some r)) (100 - nx cnt yd c) (nx cnt yd c) an' → PWd S L lp N Z K tp cnt yd an' pl' g n' z' → FRB FP tp 5 f n1 g → n1 ≤ n' → V G X 60 [.ref tp, .int (nI 3), .int (nI a), .int (nI b), .int (nI c)] [] n' z' g := by
              intro j
              induction j with
              | zero =>
                intro c n' z' g an' hc hbc2 hr q1 q2 q3
                have : c = cnt := by omega
                subst this
                rw [fY_e] at hr
                have t1 := hcT q1
                refine wp_sound (by rw [hi]; exact ok_X4_tryAll) (hd := [4, 6, 26, 30, 55, 60, 82, 88]) 400 _ _ _ _ _ _ ?_
                simp only [wp, stp, List.mem_cons, List.not_mem_nil, Nat.reduceEqDiff, or_false, or_self, false_or, or_true, true_or, Nat.reduceAdd, ↓reduceIte, List.getElem?_cons_zero, List.getElem?_cons_succ, nthV, List.set_cons_zero, List.set_cons_succ, noL, popA, catS, Value.category, List.length_cons, List.length_nil, Nat.reduceLT, Nat.reduceLeDiff, true_and, and_true, one0, zer1, imp_t, imp_f, ofN_nI, sdead, f20, f21, not_true_eq_false, upC_ap, upC_upC, retC, fitC, isRefT, Option.toList_some, Option.toList_none, List.cons_append, List.nil_append, Nat.lt_add_one, Nat.zero_lt_succ, Nat.le_refl, Nat.add_zero, Nat.zero_add, Nat.one_ne_zero, Nat.zero_ne_one, Nat.lt_irrefl, List.length_set, fa_X4_tryAll, hi, hd, hQ, mr_X4_tryAll, t1]
                try simp only [m1f]
                try simp (disch := omega) only [nmod, nI_leI, nI_ltI, nI_eq, nI_clamp, vin_nI, nI_1, fa_lit, nI_add, nI_rm3, nI_rm2, pk_rem, pk_mul, pk_sub, pk_div, nI_eM, nI_Me, nI_pM, nI_pMz, nI_pM0, M1_lt, M1_le, nI_ltM, nI_leM, i8_nI, true_and, and_true, false_implies, true_implies, not_false_eq_true, not_true_eq_false, ne_eq, implies_true, Nat.not_lt_zero, Nat.zero_le, ite_min, max0, Nat.reduceLT, Nat.reduceLeDiff, Nat.reduceEqDiff, Nat.reduceAdd, Nat.reduceMul]
                try simp only [m1u]
                exact ⟨fun _ => h88 _ _ _ _ (hr ▸ q1) q2 q3, fun h => absurd (Nat.le_refl _) h⟩
              | succ j ih3 =>
                intro c n' z' g an' hc hbc2 hr q1 q2 q3
                have t1 := hcT q1
                have hcc : c < cnt := by omega
                rw [fY_at hY hA hcc] at hr
                refine wp_sound (by rw [hi]; exact ok_X4_tryAll) (hd := [4, 6, 26, 30, 55, 60, 82, 88]) 400 _ _ _ _ _ _ ?_
                simp only [wp, stp, List.mem_cons, List.not_mem_nil, Nat.reduceEqDiff, or_false, or_self, false_or, or_true, true_or, Nat.reduceAdd, ↓reduceIte, List.getElem?_cons_zero, List.getElem?_cons_succ, nthV, List.set_cons_zero, List.set_cons_succ, noL, popA, catS, Value.category, List.length_cons, List.length_nil, Nat.reduceLT, Nat.reduceLeDiff, true_and, and_true, one0, zer1, imp_t, imp_f, ofN_nI, sdead, f20, f21, not_true_eq_false, upC_ap, upC_upC, retC, fitC, isRefT, Option.toList_some, Option.toList_none, List.cons_append, List.nil_append, Nat.lt_add_one, Nat.zero_lt_succ, Nat.le_refl, Nat.add_zero, Nat.zero_add, Nat.one_ne_zero, Nat.zero_ne_one, Nat.lt_irrefl, List.length_set, fa_X4_tryAll, hi, hd, hQ, mr_X4_tryAll, t1]
                try simp only [m1f]
                try simp (disch := omega) only [nmod, nI_leI, nI_ltI, nI_eq, nI_clamp, vin_nI, nI_1, fa_lit, nI_add, nI_rm3, nI_rm2, pk_rem, pk_mul, pk_sub, pk_div, nI_eM, nI_Me, nI_pM, nI_pMz, nI_pM0, M1_lt, M1_le, nI_ltM, nI_leM, i8_nI, true_and, and_true, false_implies, true_implies, not_false_eq_true, not_true_eq_false, ne_eq, implies_true, Nat.not_lt_zero, Nat.zero_le, ite_min, max0, Nat.reduceLT, Nat.reduceLeDiff, Nat.reduceEqDiff, Nat.reduceAdd, Nat.reduceMul]
                try simp only [m1u]
                refine ⟨fun h => absurd h (by omega), fun _ => ⟨by omega, _, t_judge (b := some b) (c := some c) hG (by omega) hS h36 h49 (by omega) hsep hY hA q1 hac ⟨hbc, by omega⟩ ⟨hcc, by omega⟩ (fun b' c' h h' => by cases h; cases h'; omega), ?_⟩⟩
                rintro v n2 z2 f2 ⟨rfl, hP2, hF2, hn2⟩
                refine wp_sound (by rw [hi]; exact ok_X4_tryAll) (hd := [4, 6, 26, 30, 55, 60, 82]) 400 _ _ _ _ _ _ ?_
                simp only [wp, stp, List.mem_cons, List.not_mem_nil, Nat.reduceEqDiff, or_false, or_self, false_or, or_true, true_or, Nat.reduceAdd, ↓reduceIte, List.getElem?_cons_zero, List.getElem?_cons_succ, nthV, List.set_cons_zero, List.set_cons_succ, noL, popA, catS, Value.category, List.length_cons, List.length_nil, Nat.reduceLT, Nat.reduceLeDiff, true_and, and_true, one0, zer1, imp_t, imp_f, ofN_nI, sdead, f20, f21, not_true_eq_false, upC_ap, upC_upC, retC, fitC, isRefT, Option.toList_some, Option.toList_none, List.cons_append, List.nil_append, Nat.lt_add_one, Nat.zero_lt_succ, Nat.le_refl, Nat.add_zero, Nat.zero_add, Nat.one_ne_zero, Nat.zero_ne_one, Nat.lt_irrefl, List.length_set, fa_X4_tryAll, hi, hd, hQ, mr_X4_tryAll]
                try simp only [m1f]
                try simp (disch := omega) only [nmod, nI_leI, nI_ltI, nI_eq, nI_clamp, vin_nI, nI_1, fa_lit, nI_add, nI_rm3, nI_rm2, pk_rem, pk_mul, pk_sub, pk_div, nI_eM, nI_Me, nI_pM, nI_pMz, nI_pM0, M1_lt, M1_le, nI_ltM, nI_leM, i8_nI, true_and, and_true, false_implies, true_implies, not_false_eq_true, not_true_eq_false, ne_eq, implies_true, Nat.not_lt_zero, Nat.zero_le, ite_min, max0, Nat.reduceLT, Nat.reduceLeDiff, Nat.reduceEqDiff, Nat.reduceAdd, Nat.reduceMul]
                try simp only [m1u]
                exact ih3 (c + 1) n2 z2 f2 _ (by omega) (by omega) hr hP2 (q2.trans q3 hF2) (by omega)
            refine wp_sound (by rw [hi]; exact ok_X4_tryAll) (hd := [4, 6, 26, 30, 60, 82, 94]) 400 _ _ _ _ _ _ ?_
            simp only [wp, stp, List.mem_cons, List.not_mem_nil, Nat.reduceEqDiff, or_false, or_self, false_or, or_true, true_or, Nat.reduceAdd, ↓reduceIte, List.getElem?_cons_zero, List.getElem?_cons_succ, nthV, List.set_cons_zero, List.set_cons_succ, noL, popA, catS, Value.category, List.length_cons, List.length_nil, Nat.reduceLT, Nat.reduceLeDiff, true_and, and_true, one0, zer1, imp_t, imp_f, ofN_nI, sdead, f20, f21, not_true_eq_false, upC_ap, upC_upC, retC, fitC, isRefT, Option.toList_some, Option.toList_none, List.cons_append, List.nil_append, Nat.lt_add_one, Nat.zero_lt_succ, Nat.le_refl, Nat.add_zero, Nat.zero_add, Nat.one_ne_zero, Nat.zero_ne_one, Nat.lt_irrefl, List.length_set, fa_X4_tryAll, hi, hd, hQ, mr_X4_tryAll, t1]
            try simp only [m1f]
            try simp (disch := omega) only [nmod, nI_leI, nI_ltI, nI_eq, nI_clamp, vin_nI, nI_1, fa_lit, nI_add, nI_rm3, nI_rm2, pk_rem, pk_mul, pk_sub, pk_div, nI_eM, nI_Me, nI_pM, nI_pMz, nI_pM0, M1_lt, M1_le, nI_ltM, nI_leM, i8_nI, true_and, and_true, false_implies, true_implies, not_false_eq_true, not_true_eq_false, ne_eq, implies_true, Nat.not_lt_zero, Nat.zero_le, ite_min, max0, Nat.reduceLT, Nat.reduceLeDiff, Nat.reduceEqDiff, Nat.reduceAdd, Nat.reduceMul]
            try simp only [m1u]
            exact ⟨fun h => absurd h (by omega), fun _ => inn (cnt - (b + 1)) (b + 1) n' z' g an' (by omega) (by omega) hRj q1 q2 q3⟩
        have t1 := hcT q1
        refine wp_sound (by rw [hi]; exact ok_X4_tryAll) (hd := [4, 6, 30, 55, 60, 82, 100]) 400 _ _ _ _ _ _ ?_
        simp only [wp, stp, List.mem_cons, List.not_mem_nil, Nat.reduceEqDiff, or_false, or_self, false_or, or_true, true_or, Nat.reduceAdd, ↓reduceIte, List.getElem?_cons_zero, List.getElem?_cons_succ, nthV, List.set_cons_zero, List.set_cons_succ, noL, popA, catS, Value.category, List.length_cons, List.length_nil, Nat.reduceLT, Nat.reduceLeDiff, true_and, and_true, one0, zer1, imp_t, imp_f, ofN_nI, sdead, f20, f21, not_true_eq_false, upC_ap, upC_upC, retC, fitC, isRefT, Option.toList_some, Option.toList_none, List.cons_append, List.nil_append, Nat.lt_add_one, Nat.zero_lt_succ, Nat.le_refl, Nat.add_zero, Nat.zero_add, Nat.one_ne_zero, Nat.zero_ne_one, Nat.lt_irrefl, List.length_set, fa_X4_tryAll, hi, hd, hQ, mr_X4_tryAll, t1]
        try simp only [m1f]
        try simp (disch := omega) only [nmod, nI_leI, nI_ltI, nI_eq, nI_clamp, vin_nI, nI_1, fa_lit, nI_add, nI_rm3, nI_rm2, pk_rem, pk_mul, pk_sub, pk_div, nI_eM, nI_Me, nI_pM, nI_pMz, nI_pM0, M1_lt, M1_le, nI_ltM, nI_leM, i8_nI, true_and, and_true, false_implies, true_implies, not_false_eq_true, not_true_eq_false, ne_eq, implies_true, Nat.not_lt_zero, Nat.zero_le, ite_min, max0, Nat.reduceLT, Nat.reduceLeDiff, Nat.reduceEqDiff, Nat.reduceAdd, Nat.reduceMul]
        try simp only [m1u]
        exact ⟨fun h => absurd h (by omega), fun _ => inner (cnt - (a + 1)) (a + 1) n' z' g u4 an' (by omega) (by omega) hRi q1 q2 q3⟩
    refine wp_sound (by rw [hi]; exact ok_X4_tryAll) (hd := [4, 6, 26, 30, 55, 60, 82]) 400 _ _ _ _ _ _ ?_
    simp only [wp, stp, List.mem_cons, List.not_mem_nil, Nat.reduceEqDiff, or_false, or_self, false_or, or_true, true_or, Nat.reduceAdd, ↓reduceIte, List.getElem?_cons_zero, List.getElem?_cons_succ, nthV, List.set_cons_zero, List.set_cons_succ, noL, popA, catS, Value.category, List.length_cons, List.length_nil, Nat.reduceLT, Nat.reduceLeDiff, true_and, and_true, one0, zer1, imp_t, imp_f, ofN_nI, sdead, f20, f21, not_true_eq_false, upC_ap, upC_upC, retC, fitC, isRefT, Option.toList_some, Option.toList_none, List.cons_append, List.nil_append, Nat.lt_add_one, Nat.zero_lt_succ, Nat.le_refl, Nat.add_zero, Nat.zero_add, Nat.one_ne_zero, Nat.zero_ne_one, Nat.lt_irrefl, List.length_set, fa_X4_tryAll, hi, hd, hQ, mr_X4_tryAll]
    try simp only [m1f]
    try simp (disch := omega) only [nmod, nI_leI, nI_ltI, nI_eq, nI_clamp, vin_nI, nI_1, fa_lit, nI_add, nI_rm3, nI_rm2, pk_rem, pk_mul, pk_sub, pk_div, nI_eM, nI_Me, nI_pM, nI_pMz, nI_pM0, M1_lt, M1_le, nI_ltM, nI_leM, i8_nI, true_and, and_true, false_implies, true_implies, not_false_eq_true, not_true_eq_false, ne_eq, implies_true, Nat.not_lt_zero, Nat.zero_le, ite_min, max0, Nat.reduceLT, Nat.reduceLeDiff, Nat.reduceEqDiff, Nat.reduceAdd, Nat.reduceMul]
    try simp only [m1u]
    exact loop cnt 0 _ _ _ _ _ an0 (by omega) hR hP1 hF1 (Nat.le_refl _)
theorem t_plInit (hG : Ok G) (hd1 : 1 ≤ d) {p : Nat} (hn : p + 5 ≤ CAP) (hz : z + 2761 ≤ SCAP) (h : f p = cO 4 (new0 4)) {c1 c2 : List Value} (h1 : f 1 = cO 0 c1) (h2 : f 20 = cO 2 c2) (hp1 : 49 ≤ p) : Tr G d 48 [.ref p, .ref 1, .ref 20] (p + 1) z f (fun v n' z' f' => v = none ∧ n' = p + 5 ∧ z' = z + 2761 ∧ PL f' p (fun _ => 0) (fun _ => 0) 0 (fun _ => 0) (fun _ => 0) ∧ ∀ x, ¬ (p ≤ x ∧ x ≤ p + 4) → f' x = f x) := by
  have hCAP : CAP = 600000 := rfl
  have hSCAP : SCAP = 7302249 := rfl
  have hp : p < 1000000 := by omega
  have a1 : (24 : Int32).toNatClampNeg = 24 := rfl
  have a2 : ((24 : Int32) < 0) = False := eq_false (by decide)
  have a3 : (36 : Int32).toNatClampNeg = 36 := rfl
  have a4 : ((36 : Int32) < 0) = False := eq_false (by decide)
  have a5 : (1332 : Int32).toNatClampNeg = 1332 := rfl
  have a6 : ((1332 : Int32) < 0) = False := eq_false (by decide)
  have a7 : (1369 : Int32).toNatClampNeg = 1369 := rfl
  have a8 : ((1369 : Int32) < 0) = False := eq_false (by decide)
  rw [show new0 4 = [.null, .null, .null, .null, .int 0, .null, .null] from rfl] at h
  refine Tr.of2 (ls0 := [.ref p, .ref 1, .ref 20]) hG mo_X4_init (Nat.le_of_ble_eq_true rfl) rfl ?_
  intro X hi hd hXn hXz hXf hQ
  refine wp_sound (by rw [hi]; exact ok_X4_init) (hd := []) 400 _ _ _ _ _ _ ?_
  simp (disch := omega) only [wp, stp, List.mem_cons, List.not_mem_nil, Nat.reduceEqDiff, or_false, or_self, false_or, or_true, true_or, Nat.reduceAdd, ↓reduceIte, List.getElem?_cons_zero, List.getElem?_cons_succ, nthV, List.set_cons_zero, List.set_cons_succ, noL, popA, catS, Value.category, List.length_cons, List.length_nil, Nat.reduceLT, Nat.reduceLeDiff, true_and, and_true, one0, zer1, imp_t, imp_f, ofN_nI, sdead, f20, f21, not_true_eq_false, upC_self, upC_ne, upC_upC, retC, fitC, isRefT, Option.toList_some, Option.toList_none, List.cons_append, List.nil_append, Nat.lt_add_one, Nat.zero_lt_succ, Nat.le_refl, Nat.add_zero, Nat.zero_add, Nat.one_ne_zero, Nat.zero_ne_one, Nat.lt_irrefl, List.length_set, fa_X4_init, hi, hd, hQ, mr_X4_init, h, h1, h2, a1, a2, a3, a4, a5, a6, a7, a8, hp, Nat.add_assoc, not_false_eq_true]
  refine ⟨by omega, by omega, by omega, by omega, by omega, by omega, by omega, by omega, by omega, ⟨?_, ?_, ?_, ?_, ?_⟩, fun x hx => ?_⟩
  · simp (disch := omega) only [upC_self, upC_ne]
  · simp (disch := omega) only [upC_self, upC_ne]
  · simp (disch := omega) only [upC_self, upC_ne]
  · simp (disch := omega) only [upC_self, upC_ne]
  · simp (disch := omega) only [upC_self, upC_ne]
  · simp (disch := omega) only [upC_ne]
end Pl5
