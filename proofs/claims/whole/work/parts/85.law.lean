-- the law's loop: one call of each kind
set_option maxRecDepth 100000
set_option maxHeartbeats 8000000
section Lbs
variable {G : Gam} {d n z len sp i : Nat} {f : Mf} {scr : Nat → Int32} {X : Fx}
theorem t_br_0 (hG : Ok G) (hi : X.i = 212) (hd : X.d = d) (hd1 : 42 ≤ d) (hQ : ∀ n z f, X.Q (some (.int 1)) n z f) (hsp : 1000000 ≤ sp) (hlen : len ≤ 3072) (h6 : 6 * i + 6 ≤ len) (nxt : ∀ n z f, WX sp len scr (i + 1) f n z → V G X 916 [.ref sp, .ref 0, .ref 31, .int (nI (6 * i))] [] n z f) (hW : WX sp len scr i f n z) : V G X 152 [.ref sp, .ref 0, .ref 31, .int (nI (6 * i))] [] n z f := by
  obtain ⟨h1, S, L, tb, tl, fk, fp, kp, I, W, A, s, hm, hX, hR⟩ := hW
  obtain ⟨o8, h0⟩ : ∃ fs, f 0 = cO 8 fs := by
    obtain ⟨lp, N, Z, K, ro, to, ko, -, h⟩ := id hX
    exact ⟨_, h.2.2.2.2.1⟩
  refine wp_sound (by rw [hi]; exact ok_L_law) (hd := [161, 170, 916]) 400 _ _ _ _ _ _ ?_
  simp only [wp, stp, List.mem_cons, List.not_mem_nil, Nat.reduceEqDiff, or_false, or_self, false_or, or_true, true_or, Nat.reduceAdd, ↓reduceIte, List.getElem?_cons_zero, List.getElem?_cons_succ, nthV, List.set_cons_zero, List.set_cons_succ, noL, popA, catS, Value.category, List.length_cons, List.length_nil, Nat.reduceLT, Nat.reduceLeDiff, true_and, and_true, one0, zer1, imp_t, imp_f, ofN_nI, sdead, f20, f21, not_true_eq_false, upC_ap, upC_upC, retC, fitC, isRefT, Option.toList_some, Option.toList_none, List.cons_append, List.nil_append, Nat.lt_add_one, Nat.zero_lt_succ, Nat.le_refl, Nat.add_zero, Nat.zero_add, Nat.one_ne_zero, Nat.zero_ne_one, Nat.lt_irrefl, List.length_set, fa_L_law_0, hi, hd, hQ, mr_L_law, h1, h0, tg_L_law, swt, lks, Int.reduceAdd]
  try simp only [m1f]
  try simp (disch := omega) only [nmod, nI_leI, nI_ltI, nI_eq, nI_clamp, vin_nI, nI_1, fa_lit, nI_add, nI_rm3, nI_rm2, pk_rem, pk_mul, pk_sub, pk_div, nI_eM, nI_Me, nI_pM, nI_pMz, nI_pM0, M1_lt, M1_le, nI_ltM, nI_leM, i8_nI, true_and, and_true, false_implies, true_implies, not_false_eq_true, not_true_eq_false, ne_eq, implies_true, Nat.not_lt_zero, Nat.zero_le, ite_min, max0, Nat.reduceLT, Nat.reduceLeDiff, Nat.reduceEqDiff, Nat.reduceAdd, Nat.reduceMul]
  try simp only [m1u]
  refine ⟨by omega, by omega, _, pr_state (i := i) hG (by omega) (by omega) hX (scr (6 * i + 1)), ?_⟩
  rintro v n1 z1 f1 ⟨S', L', tb', tl', fk', fp', kp', ans, rfl, hX1, hF, h9⟩
  have h1' : f1 sp = cI len scr := (hF.2 sp hsp).trans h1
  have hm1 : f1 = mM f1 I W A s := mM.eq (f0 := f) (fun x a b => by rw [hF.1 x a b, ← hm])
  have h31 : f1 31 = cO 9 (mO I s.1) := by rw [hm1]; exact mM_31
  refine wp_sound (by rw [hi]; exact ok_L_law) (hd := [161, 170, 916]) 400 _ _ _ _ _ _ ?_
  simp only [wp, stp, List.mem_cons, List.not_mem_nil, Nat.reduceEqDiff, or_false, or_self, false_or, or_true, true_or, Nat.reduceAdd, ↓reduceIte, List.getElem?_cons_zero, List.getElem?_cons_succ, nthV, List.set_cons_zero, List.set_cons_succ, noL, popA, catS, Value.category, List.length_cons, List.length_nil, Nat.reduceLT, Nat.reduceLeDiff, true_and, and_true, one0, zer1, imp_t, imp_f, ofN_nI, sdead, f20, f21, not_true_eq_false, upC_ap, upC_upC, retC, fitC, isRefT, Option.toList_some, Option.toList_none, List.cons_append, List.nil_append, Nat.lt_add_one, Nat.zero_lt_succ, Nat.le_refl, Nat.add_zero, Nat.zero_add, Nat.one_ne_zero, Nat.zero_ne_one, Nat.lt_irrefl, List.length_set, fa_L_law_0, hi, hd, hQ, mr_L_law, h1', h31, tg_L_law, swt, lks, Int.reduceAdd]
  try simp only [m1f]
  try simp (disch := omega) only [nmod, nI_leI, nI_ltI, nI_eq, nI_clamp, vin_nI, nI_1, fa_lit, nI_add, nI_rm3, nI_rm2, pk_rem, pk_mul, pk_sub, pk_div, nI_eM, nI_Me, nI_pM, nI_pMz, nI_pM0, M1_lt, M1_le, nI_ltM, nI_leM, i8_nI, true_and, and_true, false_implies, true_implies, not_false_eq_true, not_true_eq_false, ne_eq, implies_true, Nat.not_lt_zero, Nat.zero_le, ite_min, max0, Nat.reduceLT, Nat.reduceLeDiff, Nat.reduceEqDiff, Nat.reduceAdd, Nat.reduceMul]
  try simp only [m1u]
  refine ⟨by omega, by omega, _, Tr.mem hm1 (h9 I W A s hR), ?_⟩
  rintro v n2 z2 f2 ⟨rfl, rfl, rfl, I', W', A', s', rfl, hR'⟩
  refine wp_sound (by rw [hi]; exact ok_L_law) (hd := [170, 916]) 400 _ _ _ _ _ _ ?_
  simp only [wp, stp, List.mem_cons, List.not_mem_nil, Nat.reduceEqDiff, or_false, or_self, false_or, or_true, true_or, Nat.reduceAdd, ↓reduceIte, List.getElem?_cons_zero, List.getElem?_cons_succ, nthV, List.set_cons_zero, List.set_cons_succ, noL, popA, catS, Value.category, List.length_cons, List.length_nil, Nat.reduceLT, Nat.reduceLeDiff, true_and, and_true, one0, zer1, imp_t, imp_f, ofN_nI, sdead, f20, f21, not_true_eq_false, upC_ap, upC_upC, retC, fitC, isRefT, Option.toList_some, Option.toList_none, List.cons_append, List.nil_append, Nat.lt_add_one, Nat.zero_lt_succ, Nat.le_refl, Nat.add_zero, Nat.zero_add, Nat.one_ne_zero, Nat.zero_ne_one, Nat.lt_irrefl, List.length_set, fa_L_law_0, hi, hd, hQ, mr_L_law, tg_L_law, swt, lks, Int.reduceAdd]
  try simp only [m1f]
  try simp (disch := omega) only [nmod, nI_leI, nI_ltI, nI_eq, nI_clamp, vin_nI, nI_1, fa_lit, nI_add, nI_rm3, nI_rm2, pk_rem, pk_mul, pk_sub, pk_div, nI_eM, nI_Me, nI_pM, nI_pMz, nI_pM0, M1_lt, M1_le, nI_ltM, nI_leM, i8_nI, true_and, and_true, false_implies, true_implies, not_false_eq_true, not_true_eq_false, ne_eq, implies_true, Nat.not_lt_zero, Nat.zero_le, ite_min, max0, Nat.reduceLT, Nat.reduceLeDiff, Nat.reduceEqDiff, Nat.reduceAdd, Nat.reduceMul]
  try simp only [m1u]
  exact nxt _ _ _ ⟨by rw [mM_o (by omega)]; exact h1', S', L', tb', tl', fk', fp', kp', I', W', A', s', mM.eq (f0 := f1) (fun _ _ _ => rfl), hX1.off (fun x hx => mM_o hx), hR'⟩
theorem t_br_1 (hG : Ok G) (hi : X.i = 212) (hd : X.d = d) (hd1 : 42 ≤ d) (hQ : ∀ n z f, X.Q (some (.int 1)) n z f) (hsp : 1000000 ≤ sp) (hlen : len ≤ 3072) (h6 : 6 * i + 6 ≤ len) (nxt : ∀ n z f, WX sp len scr (i + 1) f n z → V G X 916 [.ref sp, .ref 0, .ref 31, .int (nI (6 * i))] [] n z f) (hW : WX sp len scr i f n z) : V G X 175 [.ref sp, .ref 0, .ref 31, .int (nI (6 * i))] [] n z f := by
  obtain ⟨h1, S, L, tb, tl, fk, fp, kp, I, W, A, s, hm, hX, hR⟩ := hW
  obtain ⟨o8, h0⟩ : ∃ fs, f 0 = cO 8 fs := by
    obtain ⟨lp, N, Z, K, ro, to, ko, -, h⟩ := id hX
    exact ⟨_, h.2.2.2.2.1⟩
  refine wp_sound (by rw [hi]; exact ok_L_law) (hd := [189, 203, 916]) 400 _ _ _ _ _ _ ?_
  simp only [wp, stp, List.mem_cons, List.not_mem_nil, Nat.reduceEqDiff, or_false, or_self, false_or, or_true, true_or, Nat.reduceAdd, ↓reduceIte, List.getElem?_cons_zero, List.getElem?_cons_succ, nthV, List.set_cons_zero, List.set_cons_succ, noL, popA, catS, Value.category, List.length_cons, List.length_nil, Nat.reduceLT, Nat.reduceLeDiff, true_and, and_true, one0, zer1, imp_t, imp_f, ofN_nI, sdead, f20, f21, not_true_eq_false, upC_ap, upC_upC, retC, fitC, isRefT, Option.toList_some, Option.toList_none, List.cons_append, List.nil_append, Nat.lt_add_one, Nat.zero_lt_succ, Nat.le_refl, Nat.add_zero, Nat.zero_add, Nat.one_ne_zero, Nat.zero_ne_one, Nat.lt_irrefl, List.length_set, fa_L_law_1, hi, hd, hQ, mr_L_law, h1, h0, tg_L_law, swt, lks, Int.reduceAdd]
  try simp only [m1f]
  try simp (disch := omega) only [nmod, nI_leI, nI_ltI, nI_eq, nI_clamp, vin_nI, nI_1, fa_lit, nI_add, nI_rm3, nI_rm2, pk_rem, pk_mul, pk_sub, pk_div, nI_eM, nI_Me, nI_pM, nI_pMz, nI_pM0, M1_lt, M1_le, nI_ltM, nI_leM, i8_nI, true_and, and_true, false_implies, true_implies, not_false_eq_true, not_true_eq_false, ne_eq, implies_true, Nat.not_lt_zero, Nat.zero_le, ite_min, max0, Nat.reduceLT, Nat.reduceLeDiff, Nat.reduceEqDiff, Nat.reduceAdd, Nat.reduceMul]
  try simp only [m1u]
  refine ⟨by omega, by omega, by omega, _, pr_plain (i := i) hG (by omega) (by omega) hX (scr (6 * i + 1)) (scr (6 * i + 2)), ?_⟩
  rintro v n1 z1 f1 ⟨S', L', tb', tl', fk', fp', kp', ans, rfl, hX1, hF, h9⟩
  have h1' : f1 sp = cI len scr := (hF.2 sp hsp).trans h1
  have hm1 : f1 = mM f1 I W A s := mM.eq (f0 := f) (fun x a b => by rw [hF.1 x a b, ← hm])
  have h31 : f1 31 = cO 9 (mO I s.1) := by rw [hm1]; exact mM_31
  refine wp_sound (by rw [hi]; exact ok_L_law) (hd := [189, 203, 916]) 400 _ _ _ _ _ _ ?_
  simp only [wp, stp, List.mem_cons, List.not_mem_nil, Nat.reduceEqDiff, or_false, or_self, false_or, or_true, true_or, Nat.reduceAdd, ↓reduceIte, List.getElem?_cons_zero, List.getElem?_cons_succ, nthV, List.set_cons_zero, List.set_cons_succ, noL, popA, catS, Value.category, List.length_cons, List.length_nil, Nat.reduceLT, Nat.reduceLeDiff, true_and, and_true, one0, zer1, imp_t, imp_f, ofN_nI, sdead, f20, f21, not_true_eq_false, upC_ap, upC_upC, retC, fitC, isRefT, Option.toList_some, Option.toList_none, List.cons_append, List.nil_append, Nat.lt_add_one, Nat.zero_lt_succ, Nat.le_refl, Nat.add_zero, Nat.zero_add, Nat.one_ne_zero, Nat.zero_ne_one, Nat.lt_irrefl, List.length_set, fa_L_law_1, hi, hd, hQ, mr_L_law, h1', h31, tg_L_law, swt, lks, Int.reduceAdd]
  try simp only [m1f]
  try simp (disch := omega) only [nmod, nI_leI, nI_ltI, nI_eq, nI_clamp, vin_nI, nI_1, fa_lit, nI_add, nI_rm3, nI_rm2, pk_rem, pk_mul, pk_sub, pk_div, nI_eM, nI_Me, nI_pM, nI_pMz, nI_pM0, M1_lt, M1_le, nI_ltM, nI_leM, i8_nI, true_and, and_true, false_implies, true_implies, not_false_eq_true, not_true_eq_false, ne_eq, implies_true, Nat.not_lt_zero, Nat.zero_le, ite_min, max0, Nat.reduceLT, Nat.reduceLeDiff, Nat.reduceEqDiff, Nat.reduceAdd, Nat.reduceMul]
  try simp only [m1u]
  refine ⟨by omega, by omega, by omega, _, Tr.mem hm1 (h9 I W A s hR), ?_⟩
  rintro v n2 z2 f2 ⟨rfl, rfl, rfl, I', W', A', s', rfl, hR'⟩
  refine wp_sound (by rw [hi]; exact ok_L_law) (hd := [203, 916]) 400 _ _ _ _ _ _ ?_
  simp only [wp, stp, List.mem_cons, List.not_mem_nil, Nat.reduceEqDiff, or_false, or_self, false_or, or_true, true_or, Nat.reduceAdd, ↓reduceIte, List.getElem?_cons_zero, List.getElem?_cons_succ, nthV, List.set_cons_zero, List.set_cons_succ, noL, popA, catS, Value.category, List.length_cons, List.length_nil, Nat.reduceLT, Nat.reduceLeDiff, true_and, and_true, one0, zer1, imp_t, imp_f, ofN_nI, sdead, f20, f21, not_true_eq_false, upC_ap, upC_upC, retC, fitC, isRefT, Option.toList_some, Option.toList_none, List.cons_append, List.nil_append, Nat.lt_add_one, Nat.zero_lt_succ, Nat.le_refl, Nat.add_zero, Nat.zero_add, Nat.one_ne_zero, Nat.zero_ne_one, Nat.lt_irrefl, List.length_set, fa_L_law_1, hi, hd, hQ, mr_L_law, tg_L_law, swt, lks, Int.reduceAdd]
  try simp only [m1f]
  try simp (disch := omega) only [nmod, nI_leI, nI_ltI, nI_eq, nI_clamp, vin_nI, nI_1, fa_lit, nI_add, nI_rm3, nI_rm2, pk_rem, pk_mul, pk_sub, pk_div, nI_eM, nI_Me, nI_pM, nI_pMz, nI_pM0, M1_lt, M1_le, nI_ltM, nI_leM, i8_nI, true_and, and_true, false_implies, true_implies, not_false_eq_true, not_true_eq_false, ne_eq, implies_true, Nat.not_lt_zero, Nat.zero_le, ite_min, max0, Nat.reduceLT, Nat.reduceLeDiff, Nat.reduceEqDiff, Nat.reduceAdd, Nat.reduceMul]
  try simp only [m1u]
  exact nxt _ _ _ ⟨by rw [mM_o (by omega)]; exact h1', S', L', tb', tl', fk', fp', kp', I', W', A', s', mM.eq (f0 := f1) (fun _ _ _ => rfl), hX1.off (fun x hx => mM_o hx), hR'⟩
theorem t_br_2 (hG : Ok G) (hi : X.i = 212) (hd : X.d = d) (hd1 : 42 ≤ d) (hQ : ∀ n z f, X.Q (some (.int 1)) n z f) (hsp : 1000000 ≤ sp) (hlen : len ≤ 3072) (h6 : 6 * i + 6 ≤ len) (nxt : ∀ n z f, WX sp len scr (i + 1) f n z → V G X 916 [.ref sp, .ref 0, .ref 31, .int (nI (6 * i))] [] n z f) (hW : WX sp len scr i f n z) : V G X 208 [.ref sp, .ref 0, .ref 31, .int (nI (6 * i))] [] n z f := by
  obtain ⟨h1, S, L, tb, tl, fk, fp, kp, I, W, A, s, hm, hX, hR⟩ := hW
  obtain ⟨o8, h0⟩ : ∃ fs, f 0 = cO 8 fs := by
    obtain ⟨lp, N, Z, K, ro, to, ko, -, h⟩ := id hX
    exact ⟨_, h.2.2.2.2.1⟩
  refine wp_sound (by rw [hi]; exact ok_L_law) (hd := [222, 236, 916]) 400 _ _ _ _ _ _ ?_
  simp only [wp, stp, List.mem_cons, List.not_mem_nil, Nat.reduceEqDiff, or_false, or_self, false_or, or_true, true_or, Nat.reduceAdd, ↓reduceIte, List.getElem?_cons_zero, List.getElem?_cons_succ, nthV, List.set_cons_zero, List.set_cons_succ, noL, popA, catS, Value.category, List.length_cons, List.length_nil, Nat.reduceLT, Nat.reduceLeDiff, true_and, and_true, one0, zer1, imp_t, imp_f, ofN_nI, sdead, f20, f21, not_true_eq_false, upC_ap, upC_upC, retC, fitC, isRefT, Option.toList_some, Option.toList_none, List.cons_append, List.nil_append, Nat.lt_add_one, Nat.zero_lt_succ, Nat.le_refl, Nat.add_zero, Nat.zero_add, Nat.one_ne_zero, Nat.zero_ne_one, Nat.lt_irrefl, List.length_set, fa_L_law_2, hi, hd, hQ, mr_L_law, h1, h0, tg_L_law, swt, lks, Int.reduceAdd]
  try simp only [m1f]
  try simp (disch := omega) only [nmod, nI_leI, nI_ltI, nI_eq, nI_clamp, vin_nI, nI_1, fa_lit, nI_add, nI_rm3, nI_rm2, pk_rem, pk_mul, pk_sub, pk_div, nI_eM, nI_Me, nI_pM, nI_pMz, nI_pM0, M1_lt, M1_le, nI_ltM, nI_leM, i8_nI, true_and, and_true, false_implies, true_implies, not_false_eq_true, not_true_eq_false, ne_eq, implies_true, Nat.not_lt_zero, Nat.zero_le, ite_min, max0, Nat.reduceLT, Nat.reduceLeDiff, Nat.reduceEqDiff, Nat.reduceAdd, Nat.reduceMul]
  try simp only [m1u]
  refine ⟨by omega, by omega, by omega, _, pr_yard (i := i) hG (by omega) (by omega) hX (scr (6 * i + 1)) (scr (6 * i + 2)), ?_⟩
  rintro v n1 z1 f1 ⟨S', L', tb', tl', fk', fp', kp', ans, rfl, hX1, hF, h9⟩
  have h1' : f1 sp = cI len scr := (hF.2 sp hsp).trans h1
  have hm1 : f1 = mM f1 I W A s := mM.eq (f0 := f) (fun x a b => by rw [hF.1 x a b, ← hm])
  have h31 : f1 31 = cO 9 (mO I s.1) := by rw [hm1]; exact mM_31
  refine wp_sound (by rw [hi]; exact ok_L_law) (hd := [222, 236, 916]) 400 _ _ _ _ _ _ ?_
  simp only [wp, stp, List.mem_cons, List.not_mem_nil, Nat.reduceEqDiff, or_false, or_self, false_or, or_true, true_or, Nat.reduceAdd, ↓reduceIte, List.getElem?_cons_zero, List.getElem?_cons_succ, nthV, List.set_cons_zero, List.set_cons_succ, noL, popA, catS, Value.category, List.length_cons, List.length_nil, Nat.reduceLT, Nat.reduceLeDiff, true_and, and_true, one0, zer1, imp_t, imp_f, ofN_nI, sdead, f20, f21, not_true_eq_false, upC_ap, upC_upC, retC, fitC, isRefT, Option.toList_some, Option.toList_none, List.cons_append, List.nil_append, Nat.lt_add_one, Nat.zero_lt_succ, Nat.le_refl, Nat.add_zero, Nat.zero_add, Nat.one_ne_zero, Nat.zero_ne_one, Nat.lt_irrefl, List.length_set, fa_L_law_2, hi, hd, hQ, mr_L_law, h1', h31, tg_L_law, swt, lks, Int.reduceAdd]
  try simp only [m1f]
  try simp (disch := omega) only [nmod, nI_leI, nI_ltI, nI_eq, nI_clamp, vin_nI, nI_1, fa_lit, nI_add, nI_rm3, nI_rm2, pk_rem, pk_mul, pk_sub, pk_div, nI_eM, nI_Me, nI_pM, nI_pMz, nI_pM0, M1_lt, M1_le, nI_ltM, nI_leM, i8_nI, true_and, and_true, false_implies, true_implies, not_false_eq_true, not_true_eq_false, ne_eq, implies_true, Nat.not_lt_zero, Nat.zero_le, ite_min, max0, Nat.reduceLT, Nat.reduceLeDiff, Nat.reduceEqDiff, Nat.reduceAdd, Nat.reduceMul]
  try simp only [m1u]
  refine ⟨by omega, by omega, by omega, _, Tr.mem hm1 (h9 I W A s hR), ?_⟩
  rintro v n2 z2 f2 ⟨rfl, rfl, rfl, I', W', A', s', rfl, hR'⟩
  refine wp_sound (by rw [hi]; exact ok_L_law) (hd := [236, 916]) 400 _ _ _ _ _ _ ?_
  simp only [wp, stp, List.mem_cons, List.not_mem_nil, Nat.reduceEqDiff, or_false, or_self, false_or, or_true, true_or, Nat.reduceAdd, ↓reduceIte, List.getElem?_cons_zero, List.getElem?_cons_succ, nthV, List.set_cons_zero, List.set_cons_succ, noL, popA, catS, Value.category, List.length_cons, List.length_nil, Nat.reduceLT, Nat.reduceLeDiff, true_and, and_true, one0, zer1, imp_t, imp_f, ofN_nI, sdead, f20, f21, not_true_eq_false, upC_ap, upC_upC, retC, fitC, isRefT, Option.toList_some, Option.toList_none, List.cons_append, List.nil_append, Nat.lt_add_one, Nat.zero_lt_succ, Nat.le_refl, Nat.add_zero, Nat.zero_add, Nat.one_ne_zero, Nat.zero_ne_one, Nat.lt_irrefl, List.length_set, fa_L_law_2, hi, hd, hQ, mr_L_law, tg_L_law, swt, lks, Int.reduceAdd]
  try simp only [m1f]
  try simp (disch := omega) only [nmod, nI_leI, nI_ltI, nI_eq, nI_clamp, vin_nI, nI_1, fa_lit, nI_add, nI_rm3, nI_rm2, pk_rem, pk_mul, pk_sub, pk_div, nI_eM, nI_Me, nI_pM, nI_pMz, nI_pM0, M1_lt, M1_le, nI_ltM, nI_leM, i8_nI, true_and, and_true, false_implies, true_implies, not_false_eq_true, not_true_eq_false, ne_eq, implies_true, Nat.not_lt_zero, Nat.zero_le, ite_min, max0, Nat.reduceLT, Nat.reduceLeDiff, Nat.reduceEqDiff, Nat.reduceAdd, Nat.reduceMul]
  try simp only [m1u]
  exact nxt _ _ _ ⟨by rw [mM_o (by omega)]; exact h1', S', L', tb', tl', fk', fp', kp', I', W', A', s', mM.eq (f0 := f1) (fun _ _ _ => rfl), hX1.off (fun x hx => mM_o hx), hR'⟩
theorem t_br_3 (hG : Ok G) (hi : X.i = 212) (hd : X.d = d) (hd1 : 42 ≤ d) (hQ : ∀ n z f, X.Q (some (.int 1)) n z f) (hsp : 1000000 ≤ sp) (hlen : len ≤ 3072) (h6 : 6 * i + 6 ≤ len) (nxt : ∀ n z f, WX sp len scr (i + 1) f n z → V G X 916 [.ref sp, .ref 0, .ref 31, .int (nI (6 * i))] [] n z f) (hW : WX sp len scr i f n z) : V G X 241 [.ref sp, .ref 0, .ref 31, .int (nI (6 * i))] [] n z f := by
  obtain ⟨h1, S, L, tb, tl, fk, fp, kp, I, W, A, s, hm, hX, hR⟩ := hW
  obtain ⟨o8, h0⟩ : ∃ fs, f 0 = cO 8 fs := by
    obtain ⟨lp, N, Z, K, ro, to, ko, -, h⟩ := id hX
    exact ⟨_, h.2.2.2.2.1⟩
  refine wp_sound (by rw [hi]; exact ok_L_law) (hd := [260, 279, 916]) 400 _ _ _ _ _ _ ?_
  simp only [wp, stp, List.mem_cons, List.not_mem_nil, Nat.reduceEqDiff, or_false, or_self, false_or, or_true, true_or, Nat.reduceAdd, ↓reduceIte, List.getElem?_cons_zero, List.getElem?_cons_succ, nthV, List.set_cons_zero, List.set_cons_succ, noL, popA, catS, Value.category, List.length_cons, List.length_nil, Nat.reduceLT, Nat.reduceLeDiff, true_and, and_true, one0, zer1, imp_t, imp_f, ofN_nI, sdead, f20, f21, not_true_eq_false, upC_ap, upC_upC, retC, fitC, isRefT, Option.toList_some, Option.toList_none, List.cons_append, List.nil_append, Nat.lt_add_one, Nat.zero_lt_succ, Nat.le_refl, Nat.add_zero, Nat.zero_add, Nat.one_ne_zero, Nat.zero_ne_one, Nat.lt_irrefl, List.length_set, fa_L_law_3, hi, hd, hQ, mr_L_law, h1, h0, tg_L_law, swt, lks, Int.reduceAdd]
  try simp only [m1f]
  try simp (disch := omega) only [nmod, nI_leI, nI_ltI, nI_eq, nI_clamp, vin_nI, nI_1, fa_lit, nI_add, nI_rm3, nI_rm2, pk_rem, pk_mul, pk_sub, pk_div, nI_eM, nI_Me, nI_pM, nI_pMz, nI_pM0, M1_lt, M1_le, nI_ltM, nI_leM, i8_nI, true_and, and_true, false_implies, true_implies, not_false_eq_true, not_true_eq_false, ne_eq, implies_true, Nat.not_lt_zero, Nat.zero_le, ite_min, max0, Nat.reduceLT, Nat.reduceLeDiff, Nat.reduceEqDiff, Nat.reduceAdd, Nat.reduceMul]
  try simp only [m1u]
  refine ⟨by omega, by omega, by omega, by omega, _, pr_tent (i := i) hG (by omega) (by omega) hX (scr (6 * i + 1)) (scr (6 * i + 2)) (scr (6 * i + 3)), ?_⟩
  rintro v n1 z1 f1 ⟨S', L', tb', tl', fk', fp', kp', ans, rfl, hX1, hF, h9⟩
  have h1' : f1 sp = cI len scr := (hF.2 sp hsp).trans h1
  have hm1 : f1 = mM f1 I W A s := mM.eq (f0 := f) (fun x a b => by rw [hF.1 x a b, ← hm])
  have h31 : f1 31 = cO 9 (mO I s.1) := by rw [hm1]; exact mM_31
  refine wp_sound (by rw [hi]; exact ok_L_law) (hd := [260, 279, 916]) 400 _ _ _ _ _ _ ?_
  simp only [wp, stp, List.mem_cons, List.not_mem_nil, Nat.reduceEqDiff, or_false, or_self, false_or, or_true, true_or, Nat.reduceAdd, ↓reduceIte, List.getElem?_cons_zero, List.getElem?_cons_succ, nthV, List.set_cons_zero, List.set_cons_succ, noL, popA, catS, Value.category, List.length_cons, List.length_nil, Nat.reduceLT, Nat.reduceLeDiff, true_and, and_true, one0, zer1, imp_t, imp_f, ofN_nI, sdead, f20, f21, not_true_eq_false, upC_ap, upC_upC, retC, fitC, isRefT, Option.toList_some, Option.toList_none, List.cons_append, List.nil_append, Nat.lt_add_one, Nat.zero_lt_succ, Nat.le_refl, Nat.add_zero, Nat.zero_add, Nat.one_ne_zero, Nat.zero_ne_one, Nat.lt_irrefl, List.length_set, fa_L_law_3, hi, hd, hQ, mr_L_law, h1', h31, tg_L_law, swt, lks, Int.reduceAdd]
  try simp only [m1f]
  try simp (disch := omega) only [nmod, nI_leI, nI_ltI, nI_eq, nI_clamp, vin_nI, nI_1, fa_lit, nI_add, nI_rm3, nI_rm2, pk_rem, pk_mul, pk_sub, pk_div, nI_eM, nI_Me, nI_pM, nI_pMz, nI_pM0, M1_lt, M1_le, nI_ltM, nI_leM, i8_nI, true_and, and_true, false_implies, true_implies, not_false_eq_true, not_true_eq_false, ne_eq, implies_true, Nat.not_lt_zero, Nat.zero_le, ite_min, max0, Nat.reduceLT, Nat.reduceLeDiff, Nat.reduceEqDiff, Nat.reduceAdd, Nat.reduceMul]
  try simp only [m1u]
  refine ⟨by omega, by omega, by omega, by omega, _, Tr.mem hm1 (h9 I W A s hR), ?_⟩
  rintro v n2 z2 f2 ⟨rfl, rfl, rfl, I', W', A', s', rfl, hR'⟩
  refine wp_sound (by rw [hi]; exact ok_L_law) (hd := [279, 916]) 400 _ _ _ _ _ _ ?_
  simp only [wp, stp, List.mem_cons, List.not_mem_nil, Nat.reduceEqDiff, or_false, or_self, false_or, or_true, true_or, Nat.reduceAdd, ↓reduceIte, List.getElem?_cons_zero, List.getElem?_cons_succ, nthV, List.set_cons_zero, List.set_cons_succ, noL, popA, catS, Value.category, List.length_cons, List.length_nil, Nat.reduceLT, Nat.reduceLeDiff, true_and, and_true, one0, zer1, imp_t, imp_f, ofN_nI, sdead, f20, f21, not_true_eq_false, upC_ap, upC_upC, retC, fitC, isRefT, Option.toList_some, Option.toList_none, List.cons_append, List.nil_append, Nat.lt_add_one, Nat.zero_lt_succ, Nat.le_refl, Nat.add_zero, Nat.zero_add, Nat.one_ne_zero, Nat.zero_ne_one, Nat.lt_irrefl, List.length_set, fa_L_law_3, hi, hd, hQ, mr_L_law, tg_L_law, swt, lks, Int.reduceAdd]
  try simp only [m1f]
  try simp (disch := omega) only [nmod, nI_leI, nI_ltI, nI_eq, nI_clamp, vin_nI, nI_1, fa_lit, nI_add, nI_rm3, nI_rm2, pk_rem, pk_mul, pk_sub, pk_div, nI_eM, nI_Me, nI_pM, nI_pMz, nI_pM0, M1_lt, M1_le, nI_ltM, nI_leM, i8_nI, true_and, and_true, false_implies, true_implies, not_false_eq_true, not_true_eq_false, ne_eq, implies_true, Nat.not_lt_zero, Nat.zero_le, ite_min, max0, Nat.reduceLT, Nat.reduceLeDiff, Nat.reduceEqDiff, Nat.reduceAdd, Nat.reduceMul]
  try simp only [m1u]
  exact nxt _ _ _ ⟨by rw [mM_o (by omega)]; exact h1', S', L', tb', tl', fk', fp', kp', I', W', A', s', mM.eq (f0 := f1) (fun _ _ _ => rfl), hX1.off (fun x hx => mM_o hx), hR'⟩
theorem t_br_4 (hG : Ok G) (hi : X.i = 212) (hd : X.d = d) (hd1 : 42 ≤ d) (hQ : ∀ n z f, X.Q (some (.int 1)) n z f) (hsp : 1000000 ≤ sp) (hlen : len ≤ 3072) (h6 : 6 * i + 6 ≤ len) (nxt : ∀ n z f, WX sp len scr (i + 1) f n z → V G X 916 [.ref sp, .ref 0, .ref 31, .int (nI (6 * i))] [] n z f) (hW : WX sp len scr i f n z) : V G X 284 [.ref sp, .ref 0, .ref 31, .int (nI (6 * i))] [] n z f := by
  obtain ⟨h1, S, L, tb, tl, fk, fp, kp, I, W, A, s, hm, hX, hR⟩ := hW
  obtain ⟨o8, h0⟩ : ∃ fs, f 0 = cO 8 fs := by
    obtain ⟨lp, N, Z, K, ro, to, ko, -, h⟩ := id hX
    exact ⟨_, h.2.2.2.2.1⟩
  refine wp_sound (by rw [hi]; exact ok_L_law) (hd := [293, 302, 916]) 400 _ _ _ _ _ _ ?_
  simp only [wp, stp, List.mem_cons, List.not_mem_nil, Nat.reduceEqDiff, or_false, or_self, false_or, or_true, true_or, Nat.reduceAdd, ↓reduceIte, List.getElem?_cons_zero, List.getElem?_cons_succ, nthV, List.set_cons_zero, List.set_cons_succ, noL, popA, catS, Value.category, List.length_cons, List.length_nil, Nat.reduceLT, Nat.reduceLeDiff, true_and, and_true, one0, zer1, imp_t, imp_f, ofN_nI, sdead, f20, f21, not_true_eq_false, upC_ap, upC_upC, retC, fitC, isRefT, Option.toList_some, Option.toList_none, List.cons_append, List.nil_append, Nat.lt_add_one, Nat.zero_lt_succ, Nat.le_refl, Nat.add_zero, Nat.zero_add, Nat.one_ne_zero, Nat.zero_ne_one, Nat.lt_irrefl, List.length_set, fa_L_law_4, hi, hd, hQ, mr_L_law, h1, h0, tg_L_law, swt, lks, Int.reduceAdd]
  try simp only [m1f]
  try simp (disch := omega) only [nmod, nI_leI, nI_ltI, nI_eq, nI_clamp, vin_nI, nI_1, fa_lit, nI_add, nI_rm3, nI_rm2, pk_rem, pk_mul, pk_sub, pk_div, nI_eM, nI_Me, nI_pM, nI_pMz, nI_pM0, M1_lt, M1_le, nI_ltM, nI_leM, i8_nI, true_and, and_true, false_implies, true_implies, not_false_eq_true, not_true_eq_false, ne_eq, implies_true, Nat.not_lt_zero, Nat.zero_le, ite_min, max0, Nat.reduceLT, Nat.reduceLeDiff, Nat.reduceEqDiff, Nat.reduceAdd, Nat.reduceMul]
  try simp only [m1u]
  refine ⟨by omega, by omega, _, pr_man (i := i) hG (by omega) (by omega) hX (scr (6 * i + 1)), ?_⟩
  rintro v n1 z1 f1 ⟨S', L', tb', tl', fk', fp', kp', ans, rfl, hX1, hF, h9⟩
  have h1' : f1 sp = cI len scr := (hF.2 sp hsp).trans h1
  have hm1 : f1 = mM f1 I W A s := mM.eq (f0 := f) (fun x a b => by rw [hF.1 x a b, ← hm])
  have h31 : f1 31 = cO 9 (mO I s.1) := by rw [hm1]; exact mM_31
  refine wp_sound (by rw [hi]; exact ok_L_law) (hd := [293, 302, 916]) 400 _ _ _ _ _ _ ?_
  simp only [wp, stp, List.mem_cons, List.not_mem_nil, Nat.reduceEqDiff, or_false, or_self, false_or, or_true, true_or, Nat.reduceAdd, ↓reduceIte, List.getElem?_cons_zero, List.getElem?_cons_succ, nthV, List.set_cons_zero, List.set_cons_succ, noL, popA, catS, Value.category, List.length_cons, List.length_nil, Nat.reduceLT, Nat.reduceLeDiff, true_and, and_true, one0, zer1, imp_t, imp_f, ofN_nI, sdead, f20, f21, not_true_eq_false, upC_ap, upC_upC, retC, fitC, isRefT, Option.toList_some, Option.toList_none, List.cons_append, List.nil_append, Nat.lt_add_one, Nat.zero_lt_succ, Nat.le_refl, Nat.add_zero, Nat.zero_add, Nat.one_ne_zero, Nat.zero_ne_one, Nat.lt_irrefl, List.length_set, fa_L_law_4, hi, hd, hQ, mr_L_law, h1', h31, tg_L_law, swt, lks, Int.reduceAdd]
  try simp only [m1f]
  try simp (disch := omega) only [nmod, nI_leI, nI_ltI, nI_eq, nI_clamp, vin_nI, nI_1, fa_lit, nI_add, nI_rm3, nI_rm2, pk_rem, pk_mul, pk_sub, pk_div, nI_eM, nI_Me, nI_pM, nI_pMz, nI_pM0, M1_lt, M1_le, nI_ltM, nI_leM, i8_nI, true_and, and_true, false_implies, true_implies, not_false_eq_true, not_true_eq_false, ne_eq, implies_true, Nat.not_lt_zero, Nat.zero_le, ite_min, max0, Nat.reduceLT, Nat.reduceLeDiff, Nat.reduceEqDiff, Nat.reduceAdd, Nat.reduceMul]
  try simp only [m1u]
  refine ⟨by omega, by omega, _, Tr.mem hm1 (h9 I W A s hR), ?_⟩
  rintro v n2 z2 f2 ⟨rfl, rfl, rfl, I', W', A', s', rfl, hR'⟩
  refine wp_sound (by rw [hi]; exact ok_L_law) (hd := [302, 916]) 400 _ _ _ _ _ _ ?_
  simp only [wp, stp, List.mem_cons, List.not_mem_nil, Nat.reduceEqDiff, or_false, or_self, false_or, or_true, true_or, Nat.reduceAdd, ↓reduceIte, List.getElem?_cons_zero, List.getElem?_cons_succ, nthV, List.set_cons_zero, List.set_cons_succ, noL, popA, catS, Value.category, List.length_cons, List.length_nil, Nat.reduceLT, Nat.reduceLeDiff, true_and, and_true, one0, zer1, imp_t, imp_f, ofN_nI, sdead, f20, f21, not_true_eq_false, upC_ap, upC_upC, retC, fitC, isRefT, Option.toList_some, Option.toList_none, List.cons_append, List.nil_append, Nat.lt_add_one, Nat.zero_lt_succ, Nat.le_refl, Nat.add_zero, Nat.zero_add, Nat.one_ne_zero, Nat.zero_ne_one, Nat.lt_irrefl, List.length_set, fa_L_law_4, hi, hd, hQ, mr_L_law, tg_L_law, swt, lks, Int.reduceAdd]
  try simp only [m1f]
  try simp (disch := omega) only [nmod, nI_leI, nI_ltI, nI_eq, nI_clamp, vin_nI, nI_1, fa_lit, nI_add, nI_rm3, nI_rm2, pk_rem, pk_mul, pk_sub, pk_div, nI_eM, nI_Me, nI_pM, nI_pMz, nI_pM0, M1_lt, M1_le, nI_ltM, nI_leM, i8_nI, true_and, and_true, false_implies, true_implies, not_false_eq_true, not_true_eq_false, ne_eq, implies_true, Nat.not_lt_zero, Nat.zero_le, ite_min, max0, Nat.reduceLT, Nat.reduceLeDiff, Nat.reduceEqDiff, Nat.reduceAdd, Nat.reduceMul]
  try simp only [m1u]
  exact nxt _ _ _ ⟨by rw [mM_o (by omega)]; exact h1', S', L', tb', tl', fk', fp', kp', I', W', A', s', mM.eq (f0 := f1) (fun _ _ _ => rfl), hX1.off (fun x hx => mM_o hx), hR'⟩
theorem t_br_5 (hG : Ok G) (hi : X.i = 212) (hd : X.d = d) (hd1 : 42 ≤ d) (hQ : ∀ n z f, X.Q (some (.int 1)) n z f) (hsp : 1000000 ≤ sp) (hlen : len ≤ 3072) (h6 : 6 * i + 6 ≤ len) (nxt : ∀ n z f, WX sp len scr (i + 1) f n z → V G X 916 [.ref sp, .ref 0, .ref 31, .int (nI (6 * i))] [] n z f) (hW : WX sp len scr i f n z) : V G X 307 [.ref sp, .ref 0, .ref 31, .int (nI (6 * i))] [] n z f := by
  obtain ⟨h1, S, L, tb, tl, fk, fp, kp, I, W, A, s, hm, hX, hR⟩ := hW
  obtain ⟨o8, h0⟩ : ∃ fs, f 0 = cO 8 fs := by
    obtain ⟨lp, N, Z, K, ro, to, ko, -, h⟩ := id hX
    exact ⟨_, h.2.2.2.2.1⟩
  refine wp_sound (by rw [hi]; exact ok_L_law) (hd := [316, 325, 916]) 400 _ _ _ _ _ _ ?_
  simp only [wp, stp, List.mem_cons, List.not_mem_nil, Nat.reduceEqDiff, or_false, or_self, false_or, or_true, true_or, Nat.reduceAdd, ↓reduceIte, List.getElem?_cons_zero, List.getElem?_cons_succ, nthV, List.set_cons_zero, List.set_cons_succ, noL, popA, catS, Value.category, List.length_cons, List.length_nil, Nat.reduceLT, Nat.reduceLeDiff, true_and, and_true, one0, zer1, imp_t, imp_f, ofN_nI, sdead, f20, f21, not_true_eq_false, upC_ap, upC_upC, retC, fitC, isRefT, Option.toList_some, Option.toList_none, List.cons_append, List.nil_append, Nat.lt_add_one, Nat.zero_lt_succ, Nat.le_refl, Nat.add_zero, Nat.zero_add, Nat.one_ne_zero, Nat.zero_ne_one, Nat.lt_irrefl, List.length_set, fa_L_law_5, hi, hd, hQ, mr_L_law, h1, h0, tg_L_law, swt, lks, Int.reduceAdd]
  try simp only [m1f]
  try simp (disch := omega) only [nmod, nI_leI, nI_ltI, nI_eq, nI_clamp, vin_nI, nI_1, fa_lit, nI_add, nI_rm3, nI_rm2, pk_rem, pk_mul, pk_sub, pk_div, nI_eM, nI_Me, nI_pM, nI_pMz, nI_pM0, M1_lt, M1_le, nI_ltM, nI_leM, i8_nI, true_and, and_true, false_implies, true_implies, not_false_eq_true, not_true_eq_false, ne_eq, implies_true, Nat.not_lt_zero, Nat.zero_le, ite_min, max0, Nat.reduceLT, Nat.reduceLeDiff, Nat.reduceEqDiff, Nat.reduceAdd, Nat.reduceMul]
  try simp only [m1u]
  refine ⟨by omega, by omega, _, pr_stranger (i := i) hG (by omega) (by omega) hX (scr (6 * i + 1)), ?_⟩
  rintro v n1 z1 f1 ⟨S', L', tb', tl', fk', fp', kp', ans, rfl, hX1, hF, h9⟩
  have h1' : f1 sp = cI len scr := (hF.2 sp hsp).trans h1
  have hm1 : f1 = mM f1 I W A s := mM.eq (f0 := f) (fun x a b => by rw [hF.1 x a b, ← hm])
  have h31 : f1 31 = cO 9 (mO I s.1) := by rw [hm1]; exact mM_31
  refine wp_sound (by rw [hi]; exact ok_L_law) (hd := [316, 325, 916]) 400 _ _ _ _ _ _ ?_
  simp only [wp, stp, List.mem_cons, List.not_mem_nil, Nat.reduceEqDiff, or_false, or_self, false_or, or_true, true_or, Nat.reduceAdd, ↓reduceIte, List.getElem?_cons_zero, List.getElem?_cons_succ, nthV, List.set_cons_zero, List.set_cons_succ, noL, popA, catS, Value.category, List.length_cons, List.length_nil, Nat.reduceLT, Nat.reduceLeDiff, true_and, and_true, one0, zer1, imp_t, imp_f, ofN_nI, sdead, f20, f21, not_true_eq_false, upC_ap, upC_upC, retC, fitC, isRefT, Option.toList_some, Option.toList_none, List.cons_append, List.nil_append, Nat.lt_add_one, Nat.zero_lt_succ, Nat.le_refl, Nat.add_zero, Nat.zero_add, Nat.one_ne_zero, Nat.zero_ne_one, Nat.lt_irrefl, List.length_set, fa_L_law_5, hi, hd, hQ, mr_L_law, h1', h31, tg_L_law, swt, lks, Int.reduceAdd]
  try simp only [m1f]
  try simp (disch := omega) only [nmod, nI_leI, nI_ltI, nI_eq, nI_clamp, vin_nI, nI_1, fa_lit, nI_add, nI_rm3, nI_rm2, pk_rem, pk_mul, pk_sub, pk_div, nI_eM, nI_Me, nI_pM, nI_pMz, nI_pM0, M1_lt, M1_le, nI_ltM, nI_leM, i8_nI, true_and, and_true, false_implies, true_implies, not_false_eq_true, not_true_eq_false, ne_eq, implies_true, Nat.not_lt_zero, Nat.zero_le, ite_min, max0, Nat.reduceLT, Nat.reduceLeDiff, Nat.reduceEqDiff, Nat.reduceAdd, Nat.reduceMul]
  try simp only [m1u]
  refine ⟨by omega, by omega, _, Tr.mem hm1 (h9 I W A s hR), ?_⟩
  rintro v n2 z2 f2 ⟨rfl, rfl, rfl, I', W', A', s', rfl, hR'⟩
  refine wp_sound (by rw [hi]; exact ok_L_law) (hd := [325, 916]) 400 _ _ _ _ _ _ ?_
  simp only [wp, stp, List.mem_cons, List.not_mem_nil, Nat.reduceEqDiff, or_false, or_self, false_or, or_true, true_or, Nat.reduceAdd, ↓reduceIte, List.getElem?_cons_zero, List.getElem?_cons_succ, nthV, List.set_cons_zero, List.set_cons_succ, noL, popA, catS, Value.category, List.length_cons, List.length_nil, Nat.reduceLT, Nat.reduceLeDiff, true_and, and_true, one0, zer1, imp_t, imp_f, ofN_nI, sdead, f20, f21, not_true_eq_false, upC_ap, upC_upC, retC, fitC, isRefT, Option.toList_some, Option.toList_none, List.cons_append, List.nil_append, Nat.lt_add_one, Nat.zero_lt_succ, Nat.le_refl, Nat.add_zero, Nat.zero_add, Nat.one_ne_zero, Nat.zero_ne_one, Nat.lt_irrefl, List.length_set, fa_L_law_5, hi, hd, hQ, mr_L_law, tg_L_law, swt, lks, Int.reduceAdd]
  try simp only [m1f]
  try simp (disch := omega) only [nmod, nI_leI, nI_ltI, nI_eq, nI_clamp, vin_nI, nI_1, fa_lit, nI_add, nI_rm3, nI_rm2, pk_rem, pk_mul, pk_sub, pk_div, nI_eM, nI_Me, nI_pM, nI_pMz, nI_pM0, M1_lt, M1_le, nI_ltM, nI_leM, i8_nI, true_and, and_true, false_implies, true_implies, not_false_eq_true, not_true_eq_false, ne_eq, implies_true, Nat.not_lt_zero, Nat.zero_le, ite_min, max0, Nat.reduceLT, Nat.reduceLeDiff, Nat.reduceEqDiff, Nat.reduceAdd, Nat.reduceMul]
  try simp only [m1u]
  exact nxt _ _ _ ⟨by rw [mM_o (by omega)]; exact h1', S', L', tb', tl', fk', fp', kp', I', W', A', s', mM.eq (f0 := f1) (fun _ _ _ => rfl), hX1.off (fun x hx => mM_o hx), hR'⟩
theorem t_br_6 (hG : Ok G) (hi : X.i = 212) (hd : X.d = d) (hd1 : 42 ≤ d) (hQ : ∀ n z f, X.Q (some (.int 1)) n z f) (hsp : 1000000 ≤ sp) (hlen : len ≤ 3072) (h6 : 6 * i + 6 ≤ len) (nxt : ∀ n z f, WX sp len scr (i + 1) f n z → V G X 916 [.ref sp, .ref 0, .ref 31, .int (nI (6 * i))] [] n z f) (hW : WX sp len scr i f n z) : V G X 330 [.ref sp, .ref 0, .ref 31, .int (nI (6 * i))] [] n z f := by
  obtain ⟨h1, S, L, tb, tl, fk, fp, kp, I, W, A, s, hm, hX, hR⟩ := hW
  obtain ⟨o8, h0⟩ : ∃ fs, f 0 = cO 8 fs := by
    obtain ⟨lp, N, Z, K, ro, to, ko, -, h⟩ := id hX
    exact ⟨_, h.2.2.2.2.1⟩
  refine wp_sound (by rw [hi]; exact ok_L_law) (hd := [349, 368, 916]) 400 _ _ _ _ _ _ ?_
  simp only [wp, stp, List.mem_cons, List.not_mem_nil, Nat.reduceEqDiff, or_false, or_self, false_or, or_true, true_or, Nat.reduceAdd, ↓reduceIte, List.getElem?_cons_zero, List.getElem?_cons_succ, nthV, List.set_cons_zero, List.set_cons_succ, noL, popA, catS, Value.category, List.length_cons, List.length_nil, Nat.reduceLT, Nat.reduceLeDiff, true_and, and_true, one0, zer1, imp_t, imp_f, ofN_nI, sdead, f20, f21, not_true_eq_false, upC_ap, upC_upC, retC, fitC, isRefT, Option.toList_some, Option.toList_none, List.cons_append, List.nil_append, Nat.lt_add_one, Nat.zero_lt_succ, Nat.le_refl, Nat.add_zero, Nat.zero_add, Nat.one_ne_zero, Nat.zero_ne_one, Nat.lt_irrefl, List.length_set, fa_L_law_6, hi, hd, hQ, mr_L_law, h1, h0, tg_L_law, swt, lks, Int.reduceAdd]
  try simp only [m1f]
  try simp (disch := omega) only [nmod, nI_leI, nI_ltI, nI_eq, nI_clamp, vin_nI, nI_1, fa_lit, nI_add, nI_rm3, nI_rm2, pk_rem, pk_mul, pk_sub, pk_div, nI_eM, nI_Me, nI_pM, nI_pMz, nI_pM0, M1_lt, M1_le, nI_ltM, nI_leM, i8_nI, true_and, and_true, false_implies, true_implies, not_false_eq_true, not_true_eq_false, ne_eq, implies_true, Nat.not_lt_zero, Nat.zero_le, ite_min, max0, Nat.reduceLT, Nat.reduceLeDiff, Nat.reduceEqDiff, Nat.reduceAdd, Nat.reduceMul]
  try simp only [m1u]
  refine ⟨by omega, by omega, by omega, by omega, _, pr_set (i := i) hG (by omega) (by omega) hX (scr (6 * i + 1)) (scr (6 * i + 2)) (scr (6 * i + 3)), ?_⟩
  rintro v n1 z1 f1 ⟨S', L', tb', tl', fk', fp', kp', ans, rfl, hX1, hF, h9⟩
  have h1' : f1 sp = cI len scr := (hF.2 sp hsp).trans h1
  have hm1 : f1 = mM f1 I W A s := mM.eq (f0 := f) (fun x a b => by rw [hF.1 x a b, ← hm])
  have h31 : f1 31 = cO 9 (mO I s.1) := by rw [hm1]; exact mM_31
  refine wp_sound (by rw [hi]; exact ok_L_law) (hd := [349, 368, 916]) 400 _ _ _ _ _ _ ?_
  simp only [wp, stp, List.mem_cons, List.not_mem_nil, Nat.reduceEqDiff, or_false, or_self, false_or, or_true, true_or, Nat.reduceAdd, ↓reduceIte, List.getElem?_cons_zero, List.getElem?_cons_succ, nthV, List.set_cons_zero, List.set_cons_succ, noL, popA, catS, Value.category, List.length_cons, List.length_nil, Nat.reduceLT, Nat.reduceLeDiff, true_and, and_true, one0, zer1, imp_t, imp_f, ofN_nI, sdead, f20, f21, not_true_eq_false, upC_ap, upC_upC, retC, fitC, isRefT, Option.toList_some, Option.toList_none, List.cons_append, List.nil_append, Nat.lt_add_one, Nat.zero_lt_succ, Nat.le_refl, Nat.add_zero, Nat.zero_add, Nat.one_ne_zero, Nat.zero_ne_one, Nat.lt_irrefl, List.length_set, fa_L_law_6, hi, hd, hQ, mr_L_law, h1', h31, tg_L_law, swt, lks, Int.reduceAdd]
  try simp only [m1f]
  try simp (disch := omega) only [nmod, nI_leI, nI_ltI, nI_eq, nI_clamp, vin_nI, nI_1, fa_lit, nI_add, nI_rm3, nI_rm2, pk_rem, pk_mul, pk_sub, pk_div, nI_eM, nI_Me, nI_pM, nI_pMz, nI_pM0, M1_lt, M1_le, nI_ltM, nI_leM, i8_nI, true_and, and_true, false_implies, true_implies, not_false_eq_true, not_true_eq_false, ne_eq, implies_true, Nat.not_lt_zero, Nat.zero_le, ite_min, max0, Nat.reduceLT, Nat.reduceLeDiff, Nat.reduceEqDiff, Nat.reduceAdd, Nat.reduceMul]
  try simp only [m1u]
  refine ⟨by omega, by omega, by omega, by omega, _, Tr.mem hm1 (h9 I W A s hR), ?_⟩
  rintro v n2 z2 f2 ⟨rfl, rfl, rfl, I', W', A', s', rfl, hR'⟩
  refine wp_sound (by rw [hi]; exact ok_L_law) (hd := [368, 916]) 400 _ _ _ _ _ _ ?_
  simp only [wp, stp, List.mem_cons, List.not_mem_nil, Nat.reduceEqDiff, or_false, or_self, false_or, or_true, true_or, Nat.reduceAdd, ↓reduceIte, List.getElem?_cons_zero, List.getElem?_cons_succ, nthV, List.set_cons_zero, List.set_cons_succ, noL, popA, catS, Value.category, List.length_cons, List.length_nil, Nat.reduceLT, Nat.reduceLeDiff, true_and, and_true, one0, zer1, imp_t, imp_f, ofN_nI, sdead, f20, f21, not_true_eq_false, upC_ap, upC_upC, retC, fitC, isRefT, Option.toList_some, Option.toList_none, List.cons_append, List.nil_append, Nat.lt_add_one, Nat.zero_lt_succ, Nat.le_refl, Nat.add_zero, Nat.zero_add, Nat.one_ne_zero, Nat.zero_ne_one, Nat.lt_irrefl, List.length_set, fa_L_law_6, hi, hd, hQ, mr_L_law, tg_L_law, swt, lks, Int.reduceAdd]
  try simp only [m1f]
  try simp (disch := omega) only [nmod, nI_leI, nI_ltI, nI_eq, nI_clamp, vin_nI, nI_1, fa_lit, nI_add, nI_rm3, nI_rm2, pk_rem, pk_mul, pk_sub, pk_div, nI_eM, nI_Me, nI_pM, nI_pMz, nI_pM0, M1_lt, M1_le, nI_ltM, nI_leM, i8_nI, true_and, and_true, false_implies, true_implies, not_false_eq_true, not_true_eq_false, ne_eq, implies_true, Nat.not_lt_zero, Nat.zero_le, ite_min, max0, Nat.reduceLT, Nat.reduceLeDiff, Nat.reduceEqDiff, Nat.reduceAdd, Nat.reduceMul]
  try simp only [m1u]
  exact nxt _ _ _ ⟨by rw [mM_o (by omega)]; exact h1', S', L', tb', tl', fk', fp', kp', I', W', A', s', mM.eq (f0 := f1) (fun _ _ _ => rfl), hX1.off (fun x hx => mM_o hx), hR'⟩
theorem t_br_7 (hG : Ok G) (hi : X.i = 212) (hd : X.d = d) (hd1 : 42 ≤ d) (hQ : ∀ n z f, X.Q (some (.int 1)) n z f) (hsp : 1000000 ≤ sp) (hlen : len ≤ 3072) (h6 : 6 * i + 6 ≤ len) (nxt : ∀ n z f, WX sp len scr (i + 1) f n z → V G X 916 [.ref sp, .ref 0, .ref 31, .int (nI (6 * i))] [] n z f) (hW : WX sp len scr i f n z) : V G X 373 [.ref sp, .ref 0, .ref 31, .int (nI (6 * i))] [] n z f := by
  obtain ⟨h1, S, L, tb, tl, fk, fp, kp, I, W, A, s, hm, hX, hR⟩ := hW
  obtain ⟨o8, h0⟩ : ∃ fs, f 0 = cO 8 fs := by
    obtain ⟨lp, N, Z, K, ro, to, ko, -, h⟩ := id hX
    exact ⟨_, h.2.2.2.2.1⟩
  refine wp_sound (by rw [hi]; exact ok_L_law) (hd := [402, 431, 916]) 400 _ _ _ _ _ _ ?_
  simp only [wp, stp, List.mem_cons, List.not_mem_nil, Nat.reduceEqDiff, or_false, or_self, false_or, or_true, true_or, Nat.reduceAdd, ↓reduceIte, List.getElem?_cons_zero, List.getElem?_cons_succ, nthV, List.set_cons_zero, List.set_cons_succ, noL, popA, catS, Value.category, List.length_cons, List.length_nil, Nat.reduceLT, Nat.reduceLeDiff, true_and, and_true, one0, zer1, imp_t, imp_f, ofN_nI, sdead, f20, f21, not_true_eq_false, upC_ap, upC_upC, retC, fitC, isRefT, Option.toList_some, Option.toList_none, List.cons_append, List.nil_append, Nat.lt_add_one, Nat.zero_lt_succ, Nat.le_refl, Nat.add_zero, Nat.zero_add, Nat.one_ne_zero, Nat.zero_ne_one, Nat.lt_irrefl, List.length_set, fa_L_law_7, hi, hd, hQ, mr_L_law, h1, h0, tg_L_law, swt, lks, Int.reduceAdd]
  try simp only [m1f]
  try simp (disch := omega) only [nmod, nI_leI, nI_ltI, nI_eq, nI_clamp, vin_nI, nI_1, fa_lit, nI_add, nI_rm3, nI_rm2, pk_rem, pk_mul, pk_sub, pk_div, nI_eM, nI_Me, nI_pM, nI_pMz, nI_pM0, M1_lt, M1_le, nI_ltM, nI_leM, i8_nI, true_and, and_true, false_implies, true_implies, not_false_eq_true, not_true_eq_false, ne_eq, implies_true, Nat.not_lt_zero, Nat.zero_le, ite_min, max0, Nat.reduceLT, Nat.reduceLeDiff, Nat.reduceEqDiff, Nat.reduceAdd, Nat.reduceMul]
  try simp only [m1u]
  refine ⟨by omega, by omega, by omega, by omega, by omega, by omega, _, pr_feed (i := i) hG (by omega) (by omega) hX (scr (6 * i + 1)) (scr (6 * i + 2)) (scr (6 * i + 3)) (scr (6 * i + 4)) (scr (6 * i + 5)), ?_⟩
  rintro v n1 z1 f1 ⟨S', L', tb', tl', fk', fp', kp', ans, rfl, hX1, hF, h9⟩
  have h1' : f1 sp = cI len scr := (hF.2 sp hsp).trans h1
  have hm1 : f1 = mM f1 I W A s := mM.eq (f0 := f) (fun x a b => by rw [hF.1 x a b, ← hm])
  have h31 : f1 31 = cO 9 (mO I s.1) := by rw [hm1]; exact mM_31
  refine wp_sound (by rw [hi]; exact ok_L_law) (hd := [402, 431, 916]) 400 _ _ _ _ _ _ ?_
  simp only [wp, stp, List.mem_cons, List.not_mem_nil, Nat.reduceEqDiff, or_false, or_self, false_or, or_true, true_or, Nat.reduceAdd, ↓reduceIte, List.getElem?_cons_zero, List.getElem?_cons_succ, nthV, List.set_cons_zero, List.set_cons_succ, noL, popA, catS, Value.category, List.length_cons, List.length_nil, Nat.reduceLT, Nat.reduceLeDiff, true_and, and_true, one0, zer1, imp_t, imp_f, ofN_nI, sdead, f20, f21, not_true_eq_false, upC_ap, upC_upC, retC, fitC, isRefT, Option.toList_some, Option.toList_none, List.cons_append, List.nil_append, Nat.lt_add_one, Nat.zero_lt_succ, Nat.le_refl, Nat.add_zero, Nat.zero_add, Nat.one_ne_zero, Nat.zero_ne_one, Nat.lt_irrefl, List.length_set, fa_L_law_7, hi, hd, hQ, mr_L_law, h1', h31, tg_L_law, swt, lks, Int.reduceAdd]
  try simp only [m1f]
  try simp (disch := omega) only [nmod, nI_leI, nI_ltI, nI_eq, nI_clamp, vin_nI, nI_1, fa_lit, nI_add, nI_rm3, nI_rm2, pk_rem, pk_mul, pk_sub, pk_div, nI_eM, nI_Me, nI_pM, nI_pMz, nI_pM0, M1_lt, M1_le, nI_ltM, nI_leM, i8_nI, true_and, and_true, false_implies, true_implies, not_false_eq_true, not_true_eq_false, ne_eq, implies_true, Nat.not_lt_zero, Nat.zero_le, ite_min, max0, Nat.reduceLT, Nat.reduceLeDiff, Nat.reduceEqDiff, Nat.reduceAdd, Nat.reduceMul]
  try simp only [m1u]
  refine ⟨by omega, by omega, by omega, by omega, by omega, by omega, _, Tr.mem hm1 (h9 I W A s hR), ?_⟩
  rintro v n2 z2 f2 ⟨rfl, rfl, rfl, I', W', A', s', rfl, hR'⟩
  refine wp_sound (by rw [hi]; exact ok_L_law) (hd := [431, 916]) 400 _ _ _ _ _ _ ?_
  simp only [wp, stp, List.mem_cons, List.not_mem_nil, Nat.reduceEqDiff, or_false, or_self, false_or, or_true, true_or, Nat.reduceAdd, ↓reduceIte, List.getElem?_cons_zero, List.getElem?_cons_succ, nthV, List.set_cons_zero, List.set_cons_succ, noL, popA, catS, Value.category, List.length_cons, List.length_nil, Nat.reduceLT, Nat.reduceLeDiff, true_and, and_true, one0, zer1, imp_t, imp_f, ofN_nI, sdead, f20, f21, not_true_eq_false, upC_ap, upC_upC, retC, fitC, isRefT, Option.toList_some, Option.toList_none, List.cons_append, List.nil_append, Nat.lt_add_one, Nat.zero_lt_succ, Nat.le_refl, Nat.add_zero, Nat.zero_add, Nat.one_ne_zero, Nat.zero_ne_one, Nat.lt_irrefl, List.length_set, fa_L_law_7, hi, hd, hQ, mr_L_law, tg_L_law, swt, lks, Int.reduceAdd]
  try simp only [m1f]
  try simp (disch := omega) only [nmod, nI_leI, nI_ltI, nI_eq, nI_clamp, vin_nI, nI_1, fa_lit, nI_add, nI_rm3, nI_rm2, pk_rem, pk_mul, pk_sub, pk_div, nI_eM, nI_Me, nI_pM, nI_pMz, nI_pM0, M1_lt, M1_le, nI_ltM, nI_leM, i8_nI, true_and, and_true, false_implies, true_implies, not_false_eq_true, not_true_eq_false, ne_eq, implies_true, Nat.not_lt_zero, Nat.zero_le, ite_min, max0, Nat.reduceLT, Nat.reduceLeDiff, Nat.reduceEqDiff, Nat.reduceAdd, Nat.reduceMul]
  try simp only [m1u]
  exact nxt _ _ _ ⟨by rw [mM_o (by omega)]; exact h1', S', L', tb', tl', fk', fp', kp', I', W', A', s', mM.eq (f0 := f1) (fun _ _ _ => rfl), hX1.off (fun x hx => mM_o hx), hR'⟩
theorem t_br_8 (hG : Ok G) (hi : X.i = 212) (hd : X.d = d) (hd1 : 42 ≤ d) (hQ : ∀ n z f, X.Q (some (.int 1)) n z f) (hsp : 1000000 ≤ sp) (hlen : len ≤ 3072) (h6 : 6 * i + 6 ≤ len) (nxt : ∀ n z f, WX sp len scr (i + 1) f n z → V G X 916 [.ref sp, .ref 0, .ref 31, .int (nI (6 * i))] [] n z f) (hW : WX sp len scr i f n z) : V G X 436 [.ref sp, .ref 0, .ref 31, .int (nI (6 * i))] [] n z f := by
  obtain ⟨h1, S, L, tb, tl, fk, fp, kp, I, W, A, s, hm, hX, hR⟩ := hW
  obtain ⟨o8, h0⟩ : ∃ fs, f 0 = cO 8 fs := by
    obtain ⟨lp, N, Z, K, ro, to, ko, -, h⟩ := id hX
    exact ⟨_, h.2.2.2.2.1⟩
  refine wp_sound (by rw [hi]; exact ok_L_law) (hd := [445, 454, 916]) 400 _ _ _ _ _ _ ?_
  simp only [wp, stp, List.mem_cons, List.not_mem_nil, Nat.reduceEqDiff, or_false, or_self, false_or, or_true, true_or, Nat.reduceAdd, ↓reduceIte, List.getElem?_cons_zero, List.getElem?_cons_succ, nthV, List.set_cons_zero, List.set_cons_succ, noL, popA, catS, Value.category, List.length_cons, List.length_nil, Nat.reduceLT, Nat.reduceLeDiff, true_and, and_true, one0, zer1, imp_t, imp_f, ofN_nI, sdead, f20, f21, not_true_eq_false, upC_ap, upC_upC, retC, fitC, isRefT, Option.toList_some, Option.toList_none, List.cons_append, List.nil_append, Nat.lt_add_one, Nat.zero_lt_succ, Nat.le_refl, Nat.add_zero, Nat.zero_add, Nat.one_ne_zero, Nat.zero_ne_one, Nat.lt_irrefl, List.length_set, fa_L_law_8, hi, hd, hQ, mr_L_law, h1, h0, tg_L_law, swt, lks, Int.reduceAdd]
  try simp only [m1f]
  try simp (disch := omega) only [nmod, nI_leI, nI_ltI, nI_eq, nI_clamp, vin_nI, nI_1, fa_lit, nI_add, nI_rm3, nI_rm2, pk_rem, pk_mul, pk_sub, pk_div, nI_eM, nI_Me, nI_pM, nI_pMz, nI_pM0, M1_lt, M1_le, nI_ltM, nI_leM, i8_nI, true_and, and_true, false_implies, true_implies, not_false_eq_true, not_true_eq_false, ne_eq, implies_true, Nat.not_lt_zero, Nat.zero_le, ite_min, max0, Nat.reduceLT, Nat.reduceLeDiff, Nat.reduceEqDiff, Nat.reduceAdd, Nat.reduceMul]
  try simp only [m1u]
  refine ⟨by omega, by omega, _, pr_end (i := i) hG (by omega) (by omega) hX (scr (6 * i + 1)), ?_⟩
  rintro v n1 z1 f1 ⟨S', L', tb', tl', fk', fp', kp', ans, rfl, hX1, hF, h9⟩
  have h1' : f1 sp = cI len scr := (hF.2 sp hsp).trans h1
  have hm1 : f1 = mM f1 I W A s := mM.eq (f0 := f) (fun x a b => by rw [hF.1 x a b, ← hm])
  have h31 : f1 31 = cO 9 (mO I s.1) := by rw [hm1]; exact mM_31
  refine wp_sound (by rw [hi]; exact ok_L_law) (hd := [445, 454, 916]) 400 _ _ _ _ _ _ ?_
  simp only [wp, stp, List.mem_cons, List.not_mem_nil, Nat.reduceEqDiff, or_false, or_self, false_or, or_true, true_or, Nat.reduceAdd, ↓reduceIte, List.getElem?_cons_zero, List.getElem?_cons_succ, nthV, List.set_cons_zero, List.set_cons_succ, noL, popA, catS, Value.category, List.length_cons, List.length_nil, Nat.reduceLT, Nat.reduceLeDiff, true_and, and_true, one0, zer1, imp_t, imp_f, ofN_nI, sdead, f20, f21, not_true_eq_false, upC_ap, upC_upC, retC, fitC, isRefT, Option.toList_some, Option.toList_none, List.cons_append, List.nil_append, Nat.lt_add_one, Nat.zero_lt_succ, Nat.le_refl, Nat.add_zero, Nat.zero_add, Nat.one_ne_zero, Nat.zero_ne_one, Nat.lt_irrefl, List.length_set, fa_L_law_8, hi, hd, hQ, mr_L_law, h1', h31, tg_L_law, swt, lks, Int.reduceAdd]
  try simp only [m1f]
  try simp (disch := omega) only [nmod, nI_leI, nI_ltI, nI_eq, nI_clamp, vin_nI, nI_1, fa_lit, nI_add, nI_rm3, nI_rm2, pk_rem, pk_mul, pk_sub, pk_div, nI_eM, nI_Me, nI_pM, nI_pMz, nI_pM0, M1_lt, M1_le, nI_ltM, nI_leM, i8_nI, true_and, and_true, false_implies, true_implies, not_false_eq_true, not_true_eq_false, ne_eq, implies_true, Nat.not_lt_zero, Nat.zero_le, ite_min, max0, Nat.reduceLT, Nat.reduceLeDiff, Nat.reduceEqDiff, Nat.reduceAdd, Nat.reduceMul]
  try simp only [m1u]
  refine ⟨by omega, by omega, _, Tr.mem hm1 (h9 I W A s hR), ?_⟩
  rintro v n2 z2 f2 ⟨rfl, rfl, rfl, I', W', A', s', rfl, hR'⟩
  refine wp_sound (by rw [hi]; exact ok_L_law) (hd := [454, 916]) 400 _ _ _ _ _ _ ?_
  simp only [wp, stp, List.mem_cons, List.not_mem_nil, Nat.reduceEqDiff, or_false, or_self, false_or, or_true, true_or, Nat.reduceAdd, ↓reduceIte, List.getElem?_cons_zero, List.getElem?_cons_succ, nthV, List.set_cons_zero, List.set_cons_succ, noL, popA, catS, Value.category, List.length_cons, List.length_nil, Nat.reduceLT, Nat.reduceLeDiff, true_and, and_true, one0, zer1, imp_t, imp_f, ofN_nI, sdead, f20, f21, not_true_eq_false, upC_ap, upC_upC, retC, fitC, isRefT, Option.toList_some, Option.toList_none, List.cons_append, List.nil_append, Nat.lt_add_one, Nat.zero_lt_succ, Nat.le_refl, Nat.add_zero, Nat.zero_add, Nat.one_ne_zero, Nat.zero_ne_one, Nat.lt_irrefl, List.length_set, fa_L_law_8, hi, hd, hQ, mr_L_law, tg_L_law, swt, lks, Int.reduceAdd]
  try simp only [m1f]
  try simp (disch := omega) only [nmod, nI_leI, nI_ltI, nI_eq, nI_clamp, vin_nI, nI_1, fa_lit, nI_add, nI_rm3, nI_rm2, pk_rem, pk_mul, pk_sub, pk_div, nI_eM, nI_Me, nI_pM, nI_pMz, nI_pM0, M1_lt, M1_le, nI_ltM, nI_leM, i8_nI, true_and, and_true, false_implies, true_implies, not_false_eq_true, not_true_eq_false, ne_eq, implies_true, Nat.not_lt_zero, Nat.zero_le, ite_min, max0, Nat.reduceLT, Nat.reduceLeDiff, Nat.reduceEqDiff, Nat.reduceAdd, Nat.reduceMul]
  try simp only [m1u]
  exact nxt _ _ _ ⟨by rw [mM_o (by omega)]; exact h1', S', L', tb', tl', fk', fp', kp', I', W', A', s', mM.eq (f0 := f1) (fun _ _ _ => rfl), hX1.off (fun x hx => mM_o hx), hR'⟩
theorem t_br_9 (hG : Ok G) (hi : X.i = 212) (hd : X.d = d) (hd1 : 42 ≤ d) (hQ : ∀ n z f, X.Q (some (.int 1)) n z f) (hsp : 1000000 ≤ sp) (hlen : len ≤ 3072) (h6 : 6 * i + 6 ≤ len) (nxt : ∀ n z f, WX sp len scr (i + 1) f n z → V G X 916 [.ref sp, .ref 0, .ref 31, .int (nI (6 * i))] [] n z f) (hW : WX sp len scr i f n z) : V G X 459 [.ref sp, .ref 0, .ref 31, .int (nI (6 * i))] [] n z f := by
  obtain ⟨h1, S, L, tb, tl, fk, fp, kp, I, W, A, s, hm, hX, hR⟩ := hW
  obtain ⟨o8, h0⟩ : ∃ fs, f 0 = cO 8 fs := by
    obtain ⟨lp, N, Z, K, ro, to, ko, -, h⟩ := id hX
    exact ⟨_, h.2.2.2.2.1⟩
  refine wp_sound (by rw [hi]; exact ok_L_law) (hd := [463, 467, 916]) 400 _ _ _ _ _ _ ?_
  simp only [wp, stp, List.mem_cons, List.not_mem_nil, Nat.reduceEqDiff, or_false, or_self, false_or, or_true, true_or, Nat.reduceAdd, ↓reduceIte, List.getElem?_cons_zero, List.getElem?_cons_succ, nthV, List.set_cons_zero, List.set_cons_succ, noL, popA, catS, Value.category, List.length_cons, List.length_nil, Nat.reduceLT, Nat.reduceLeDiff, true_and, and_true, one0, zer1, imp_t, imp_f, ofN_nI, sdead, f20, f21, not_true_eq_false, upC_ap, upC_upC, retC, fitC, isRefT, Option.toList_some, Option.toList_none, List.cons_append, List.nil_append, Nat.lt_add_one, Nat.zero_lt_succ, Nat.le_refl, Nat.add_zero, Nat.zero_add, Nat.one_ne_zero, Nat.zero_ne_one, Nat.lt_irrefl, List.length_set, fa_L_law_9, hi, hd, hQ, mr_L_law, h1, h0, tg_L_law, swt, lks, Int.reduceAdd]
  try simp only [m1f]
  try simp (disch := omega) only [nmod, nI_leI, nI_ltI, nI_eq, nI_clamp, vin_nI, nI_1, fa_lit, nI_add, nI_rm3, nI_rm2, pk_rem, pk_mul, pk_sub, pk_div, nI_eM, nI_Me, nI_pM, nI_pMz, nI_pM0, M1_lt, M1_le, nI_ltM, nI_leM, i8_nI, true_and, and_true, false_implies, true_implies, not_false_eq_true, not_true_eq_false, ne_eq, implies_true, Nat.not_lt_zero, Nat.zero_le, ite_min, max0, Nat.reduceLT, Nat.reduceLeDiff, Nat.reduceEqDiff, Nat.reduceAdd, Nat.reduceMul]
  try simp only [m1u]
  refine ⟨by omega, _, pr_text (i := i) hG (by omega) (by omega) hX , ?_⟩
  rintro v n1 z1 f1 ⟨S', L', tb', tl', fk', fp', kp', ans, rfl, hX1, hF, h9⟩
  have h1' : f1 sp = cI len scr := (hF.2 sp hsp).trans h1
  have hm1 : f1 = mM f1 I W A s := mM.eq (f0 := f) (fun x a b => by rw [hF.1 x a b, ← hm])
  have h31 : f1 31 = cO 9 (mO I s.1) := by rw [hm1]; exact mM_31
  refine wp_sound (by rw [hi]; exact ok_L_law) (hd := [463, 467, 916]) 400 _ _ _ _ _ _ ?_
  simp only [wp, stp, List.mem_cons, List.not_mem_nil, Nat.reduceEqDiff, or_false, or_self, false_or, or_true, true_or, Nat.reduceAdd, ↓reduceIte, List.getElem?_cons_zero, List.getElem?_cons_succ, nthV, List.set_cons_zero, List.set_cons_succ, noL, popA, catS, Value.category, List.length_cons, List.length_nil, Nat.reduceLT, Nat.reduceLeDiff, true_and, and_true, one0, zer1, imp_t, imp_f, ofN_nI, sdead, f20, f21, not_true_eq_false, upC_ap, upC_upC, retC, fitC, isRefT, Option.toList_some, Option.toList_none, List.cons_append, List.nil_append, Nat.lt_add_one, Nat.zero_lt_succ, Nat.le_refl, Nat.add_zero, Nat.zero_add, Nat.one_ne_zero, Nat.zero_ne_one, Nat.lt_irrefl, List.length_set, fa_L_law_9, hi, hd, hQ, mr_L_law, h1', h31, tg_L_law, swt, lks, Int.reduceAdd]
  try simp only [m1f]
  try simp (disch := omega) only [nmod, nI_leI, nI_ltI, nI_eq, nI_clamp, vin_nI, nI_1, fa_lit, nI_add, nI_rm3, nI_rm2, pk_rem, pk_mul, pk_sub, pk_div, nI_eM, nI_Me, nI_pM, nI_pMz, nI_pM0, M1_lt, M1_le, nI_ltM, nI_leM, i8_nI, true_and, and_true, false_implies, true_implies, not_false_eq_true, not_true_eq_false, ne_eq, implies_true, Nat.not_lt_zero, Nat.zero_le, ite_min, max0, Nat.reduceLT, Nat.reduceLeDiff, Nat.reduceEqDiff, Nat.reduceAdd, Nat.reduceMul]
  try simp only [m1u]
  refine ⟨by omega, _, Tr.mem hm1 (h9 I W A s hR), ?_⟩
  rintro v n2 z2 f2 ⟨rfl, rfl, rfl, I', W', A', s', rfl, hR'⟩
  refine wp_sound (by rw [hi]; exact ok_L_law) (hd := [467, 916]) 400 _ _ _ _ _ _ ?_
  simp only [wp, stp, List.mem_cons, List.not_mem_nil, Nat.reduceEqDiff, or_false, or_self, false_or, or_true, true_or, Nat.reduceAdd, ↓reduceIte, List.getElem?_cons_zero, List.getElem?_cons_succ, nthV, List.set_cons_zero, List.set_cons_succ, noL, popA, catS, Value.category, List.length_cons, List.length_nil, Nat.reduceLT, Nat.reduceLeDiff, true_and, and_true, one0, zer1, imp_t, imp_f, ofN_nI, sdead, f20, f21, not_true_eq_false, upC_ap, upC_upC, retC, fitC, isRefT, Option.toList_some, Option.toList_none, List.cons_append, List.nil_append, Nat.lt_add_one, Nat.zero_lt_succ, Nat.le_refl, Nat.add_zero, Nat.zero_add, Nat.one_ne_zero, Nat.zero_ne_one, Nat.lt_irrefl, List.length_set, fa_L_law_9, hi, hd, hQ, mr_L_law, tg_L_law, swt, lks, Int.reduceAdd]
  try simp only [m1f]
  try simp (disch := omega) only [nmod, nI_leI, nI_ltI, nI_eq, nI_clamp, vin_nI, nI_1, fa_lit, nI_add, nI_rm3, nI_rm2, pk_rem, pk_mul, pk_sub, pk_div, nI_eM, nI_Me, nI_pM, nI_pMz, nI_pM0, M1_lt, M1_le, nI_ltM, nI_leM, i8_nI, true_and, and_true, false_implies, true_implies, not_false_eq_true, not_true_eq_false, ne_eq, implies_true, Nat.not_lt_zero, Nat.zero_le, ite_min, max0, Nat.reduceLT, Nat.reduceLeDiff, Nat.reduceEqDiff, Nat.reduceAdd, Nat.reduceMul]
  try simp only [m1u]
  exact nxt _ _ _ ⟨by rw [mM_o (by omega)]; exact h1', S', L', tb', tl', fk', fp', kp', I', W', A', s', mM.eq (f0 := f1) (fun _ _ _ => rfl), hX1.off (fun x hx => mM_o hx), hR'⟩
theorem t_br_10 (hG : Ok G) (hi : X.i = 212) (hd : X.d = d) (hd1 : 42 ≤ d) (hQ : ∀ n z f, X.Q (some (.int 1)) n z f) (hsp : 1000000 ≤ sp) (hlen : len ≤ 3072) (h6 : 6 * i + 6 ≤ len) (nxt : ∀ n z f, WX sp len scr (i + 1) f n z → V G X 916 [.ref sp, .ref 0, .ref 31, .int (nI (6 * i))] [] n z f) (hW : WX sp len scr i f n z) : V G X 472 [.ref sp, .ref 0, .ref 31, .int (nI (6 * i))] [] n z f := by
  obtain ⟨h1, S, L, tb, tl, fk, fp, kp, I, W, A, s, hm, hX, hR⟩ := hW
  obtain ⟨o8, h0⟩ : ∃ fs, f 0 = cO 8 fs := by
    obtain ⟨lp, N, Z, K, ro, to, ko, -, h⟩ := id hX
    exact ⟨_, h.2.2.2.2.1⟩
  refine wp_sound (by rw [hi]; exact ok_L_law) (hd := [481, 490, 916]) 400 _ _ _ _ _ _ ?_
  simp only [wp, stp, List.mem_cons, List.not_mem_nil, Nat.reduceEqDiff, or_false, or_self, false_or, or_true, true_or, Nat.reduceAdd, ↓reduceIte, List.getElem?_cons_zero, List.getElem?_cons_succ, nthV, List.set_cons_zero, List.set_cons_succ, noL, popA, catS, Value.category, List.length_cons, List.length_nil, Nat.reduceLT, Nat.reduceLeDiff, true_and, and_true, one0, zer1, imp_t, imp_f, ofN_nI, sdead, f20, f21, not_true_eq_false, upC_ap, upC_upC, retC, fitC, isRefT, Option.toList_some, Option.toList_none, List.cons_append, List.nil_append, Nat.lt_add_one, Nat.zero_lt_succ, Nat.le_refl, Nat.add_zero, Nat.zero_add, Nat.one_ne_zero, Nat.zero_ne_one, Nat.lt_irrefl, List.length_set, fa_L_law_10, hi, hd, hQ, mr_L_law, h1, h0, tg_L_law, swt, lks, Int.reduceAdd]
  try simp only [m1f]
  try simp (disch := omega) only [nmod, nI_leI, nI_ltI, nI_eq, nI_clamp, vin_nI, nI_1, fa_lit, nI_add, nI_rm3, nI_rm2, pk_rem, pk_mul, pk_sub, pk_div, nI_eM, nI_Me, nI_pM, nI_pMz, nI_pM0, M1_lt, M1_le, nI_ltM, nI_leM, i8_nI, true_and, and_true, false_implies, true_implies, not_false_eq_true, not_true_eq_false, ne_eq, implies_true, Nat.not_lt_zero, Nat.zero_le, ite_min, max0, Nat.reduceLT, Nat.reduceLeDiff, Nat.reduceEqDiff, Nat.reduceAdd, Nat.reduceMul]
  try simp only [m1u]
  refine ⟨by omega, by omega, _, pr_fault (i := i) hG (by omega) (by omega) hX (scr (6 * i + 1)), ?_⟩
  rintro v n1 z1 f1 ⟨S', L', tb', tl', fk', fp', kp', ans, rfl, hX1, hF, h9⟩
  have h1' : f1 sp = cI len scr := (hF.2 sp hsp).trans h1
  have hm1 : f1 = mM f1 I W A s := mM.eq (f0 := f) (fun x a b => by rw [hF.1 x a b, ← hm])
  have h31 : f1 31 = cO 9 (mO I s.1) := by rw [hm1]; exact mM_31
  refine wp_sound (by rw [hi]; exact ok_L_law) (hd := [481, 490, 916]) 400 _ _ _ _ _ _ ?_
  simp only [wp, stp, List.mem_cons, List.not_mem_nil, Nat.reduceEqDiff, or_false, or_self, false_or, or_true, true_or, Nat.reduceAdd, ↓reduceIte, List.getElem?_cons_zero, List.getElem?_cons_succ, nthV, List.set_cons_zero, List.set_cons_succ, noL, popA, catS, Value.category, List.length_cons, List.length_nil, Nat.reduceLT, Nat.reduceLeDiff, true_and, and_true, one0, zer1, imp_t, imp_f, ofN_nI, sdead, f20, f21, not_true_eq_false, upC_ap, upC_upC, retC, fitC, isRefT, Option.toList_some, Option.toList_none, List.cons_append, List.nil_append, Nat.lt_add_one, Nat.zero_lt_succ, Nat.le_refl, Nat.add_zero, Nat.zero_add, Nat.one_ne_zero, Nat.zero_ne_one, Nat.lt_irrefl, List.length_set, fa_L_law_10, hi, hd, hQ, mr_L_law, h1', h31, tg_L_law, swt, lks, Int.reduceAdd]
  try simp only [m1f]
  try simp (disch := omega) only [nmod, nI_leI, nI_ltI, nI_eq, nI_clamp, vin_nI, nI_1, fa_lit, nI_add, nI_rm3, nI_rm2, pk_rem, pk_mul, pk_sub, pk_div, nI_eM, nI_Me, nI_pM, nI_pMz, nI_pM0, M1_lt, M1_le, nI_ltM, nI_leM, i8_nI, true_and, and_true, false_implies, true_implies, not_false_eq_true, not_true_eq_false, ne_eq, implies_true, Nat.not_lt_zero, Nat.zero_le, ite_min, max0, Nat.reduceLT, Nat.reduceLeDiff, Nat.reduceEqDiff, Nat.reduceAdd, Nat.reduceMul]
  try simp only [m1u]
  refine ⟨by omega, by omega, _, Tr.mem hm1 (h9 I W A s hR), ?_⟩
  rintro v n2 z2 f2 ⟨rfl, rfl, rfl, I', W', A', s', rfl, hR'⟩
  refine wp_sound (by rw [hi]; exact ok_L_law) (hd := [490, 916]) 400 _ _ _ _ _ _ ?_
  simp only [wp, stp, List.mem_cons, List.not_mem_nil, Nat.reduceEqDiff, or_false, or_self, false_or, or_true, true_or, Nat.reduceAdd, ↓reduceIte, List.getElem?_cons_zero, List.getElem?_cons_succ, nthV, List.set_cons_zero, List.set_cons_succ, noL, popA, catS, Value.category, List.length_cons, List.length_nil, Nat.reduceLT, Nat.reduceLeDiff, true_and, and_true, one0, zer1, imp_t, imp_f, ofN_nI, sdead, f20, f21, not_true_eq_false, upC_ap, upC_upC, retC, fitC, isRefT, Option.toList_some, Option.toList_none, List.cons_append, List.nil_append, Nat.lt_add_one, Nat.zero_lt_succ, Nat.le_refl, Nat.add_zero, Nat.zero_add, Nat.one_ne_zero, Nat.zero_ne_one, Nat.lt_irrefl, List.length_set, fa_L_law_10, hi, hd, hQ, mr_L_law, tg_L_law, swt, lks, Int.reduceAdd]
  try simp only [m1f]
  try simp (disch := omega) only [nmod, nI_leI, nI_ltI, nI_eq, nI_clamp, vin_nI, nI_1, fa_lit, nI_add, nI_rm3, nI_rm2, pk_rem, pk_mul, pk_sub, pk_div, nI_eM, nI_Me, nI_pM, nI_pMz, nI_pM0, M1_lt, M1_le, nI_ltM, nI_leM, i8_nI, true_and, and_true, false_implies, true_implies, not_false_eq_true, not_true_eq_false, ne_eq, implies_true, Nat.not_lt_zero, Nat.zero_le, ite_min, max0, Nat.reduceLT, Nat.reduceLeDiff, Nat.reduceEqDiff, Nat.reduceAdd, Nat.reduceMul]
  try simp only [m1u]
  exact nxt _ _ _ ⟨by rw [mM_o (by omega)]; exact h1', S', L', tb', tl', fk', fp', kp', I', W', A', s', mM.eq (f0 := f1) (fun _ _ _ => rfl), hX1.off (fun x hx => mM_o hx), hR'⟩
theorem t_br_11 (hG : Ok G) (hi : X.i = 212) (hd : X.d = d) (hd1 : 42 ≤ d) (hQ : ∀ n z f, X.Q (some (.int 1)) n z f) (hsp : 1000000 ≤ sp) (hlen : len ≤ 3072) (h6 : 6 * i + 6 ≤ len) (nxt : ∀ n z f, WX sp len scr (i + 1) f n z → V G X 916 [.ref sp, .ref 0, .ref 31, .int (nI (6 * i))] [] n z f) (hW : WX sp len scr i f n z) : V G X 495 [.ref sp, .ref 0, .ref 31, .int (nI (6 * i))] [] n z f := by
  obtain ⟨h1, S, L, tb, tl, fk, fp, kp, I, W, A, s, hm, hX, hR⟩ := hW
  obtain ⟨o8, h0⟩ : ∃ fs, f 0 = cO 8 fs := by
    obtain ⟨lp, N, Z, K, ro, to, ko, -, h⟩ := id hX
    exact ⟨_, h.2.2.2.2.1⟩
  refine wp_sound (by rw [hi]; exact ok_L_law) (hd := [504, 513, 916]) 400 _ _ _ _ _ _ ?_
  simp only [wp, stp, List.mem_cons, List.not_mem_nil, Nat.reduceEqDiff, or_false, or_self, false_or, or_true, true_or, Nat.reduceAdd, ↓reduceIte, List.getElem?_cons_zero, List.getElem?_cons_succ, nthV, List.set_cons_zero, List.set_cons_succ, noL, popA, catS, Value.category, List.length_cons, List.length_nil, Nat.reduceLT, Nat.reduceLeDiff, true_and, and_true, one0, zer1, imp_t, imp_f, ofN_nI, sdead, f20, f21, not_true_eq_false, upC_ap, upC_upC, retC, fitC, isRefT, Option.toList_some, Option.toList_none, List.cons_append, List.nil_append, Nat.lt_add_one, Nat.zero_lt_succ, Nat.le_refl, Nat.add_zero, Nat.zero_add, Nat.one_ne_zero, Nat.zero_ne_one, Nat.lt_irrefl, List.length_set, fa_L_law_11, hi, hd, hQ, mr_L_law, h1, h0, tg_L_law, swt, lks, Int.reduceAdd]
  try simp only [m1f]
  try simp (disch := omega) only [nmod, nI_leI, nI_ltI, nI_eq, nI_clamp, vin_nI, nI_1, fa_lit, nI_add, nI_rm3, nI_rm2, pk_rem, pk_mul, pk_sub, pk_div, nI_eM, nI_Me, nI_pM, nI_pMz, nI_pM0, M1_lt, M1_le, nI_ltM, nI_leM, i8_nI, true_and, and_true, false_implies, true_implies, not_false_eq_true, not_true_eq_false, ne_eq, implies_true, Nat.not_lt_zero, Nat.zero_le, ite_min, max0, Nat.reduceLT, Nat.reduceLeDiff, Nat.reduceEqDiff, Nat.reduceAdd, Nat.reduceMul]
  try simp only [m1u]
  refine ⟨by omega, by omega, _, pr_evenings (i := i) hG (by omega) (by omega) hX (scr (6 * i + 1)), ?_⟩
  rintro v n1 z1 f1 ⟨S', L', tb', tl', fk', fp', kp', ans, rfl, hX1, hF, h9⟩
  have h1' : f1 sp = cI len scr := (hF.2 sp hsp).trans h1
  have hm1 : f1 = mM f1 I W A s := mM.eq (f0 := f) (fun x a b => by rw [hF.1 x a b, ← hm])
  have h31 : f1 31 = cO 9 (mO I s.1) := by rw [hm1]; exact mM_31
  refine wp_sound (by rw [hi]; exact ok_L_law) (hd := [504, 513, 916]) 400 _ _ _ _ _ _ ?_
  simp only [wp, stp, List.mem_cons, List.not_mem_nil, Nat.reduceEqDiff, or_false, or_self, false_or, or_true, true_or, Nat.reduceAdd, ↓reduceIte, List.getElem?_cons_zero, List.getElem?_cons_succ, nthV, List.set_cons_zero, List.set_cons_succ, noL, popA, catS, Value.category, List.length_cons, List.length_nil, Nat.reduceLT, Nat.reduceLeDiff, true_and, and_true, one0, zer1, imp_t, imp_f, ofN_nI, sdead, f20, f21, not_true_eq_false, upC_ap, upC_upC, retC, fitC, isRefT, Option.toList_some, Option.toList_none, List.cons_append, List.nil_append, Nat.lt_add_one, Nat.zero_lt_succ, Nat.le_refl, Nat.add_zero, Nat.zero_add, Nat.one_ne_zero, Nat.zero_ne_one, Nat.lt_irrefl, List.length_set, fa_L_law_11, hi, hd, hQ, mr_L_law, h1', h31, tg_L_law, swt, lks, Int.reduceAdd]
  try simp only [m1f]
  try simp (disch := omega) only [nmod, nI_leI, nI_ltI, nI_eq, nI_clamp, vin_nI, nI_1, fa_lit, nI_add, nI_rm3, nI_rm2, pk_rem, pk_mul, pk_sub, pk_div, nI_eM, nI_Me, nI_pM, nI_pMz, nI_pM0, M1_lt, M1_le, nI_ltM, nI_leM, i8_nI, true_and, and_true, false_implies, true_implies, not_false_eq_true, not_true_eq_false, ne_eq, implies_true, Nat.not_lt_zero, Nat.zero_le, ite_min, max0, Nat.reduceLT, Nat.reduceLeDiff, Nat.reduceEqDiff, Nat.reduceAdd, Nat.reduceMul]
  try simp only [m1u]
  refine ⟨by omega, by omega, _, Tr.mem hm1 (h9 I W A s hR), ?_⟩
  rintro v n2 z2 f2 ⟨rfl, rfl, rfl, I', W', A', s', rfl, hR'⟩
  refine wp_sound (by rw [hi]; exact ok_L_law) (hd := [513, 916]) 400 _ _ _ _ _ _ ?_
  simp only [wp, stp, List.mem_cons, List.not_mem_nil, Nat.reduceEqDiff, or_false, or_self, false_or, or_true, true_or, Nat.reduceAdd, ↓reduceIte, List.getElem?_cons_zero, List.getElem?_cons_succ, nthV, List.set_cons_zero, List.set_cons_succ, noL, popA, catS, Value.category, List.length_cons, List.length_nil, Nat.reduceLT, Nat.reduceLeDiff, true_and, and_true, one0, zer1, imp_t, imp_f, ofN_nI, sdead, f20, f21, not_true_eq_false, upC_ap, upC_upC, retC, fitC, isRefT, Option.toList_some, Option.toList_none, List.cons_append, List.nil_append, Nat.lt_add_one, Nat.zero_lt_succ, Nat.le_refl, Nat.add_zero, Nat.zero_add, Nat.one_ne_zero, Nat.zero_ne_one, Nat.lt_irrefl, List.length_set, fa_L_law_11, hi, hd, hQ, mr_L_law, tg_L_law, swt, lks, Int.reduceAdd]
  try simp only [m1f]
  try simp (disch := omega) only [nmod, nI_leI, nI_ltI, nI_eq, nI_clamp, vin_nI, nI_1, fa_lit, nI_add, nI_rm3, nI_rm2, pk_rem, pk_mul, pk_sub, pk_div, nI_eM, nI_Me, nI_pM, nI_pMz, nI_pM0, M1_lt, M1_le, nI_ltM, nI_leM, i8_nI, true_and, and_true, false_implies, true_implies, not_false_eq_true, not_true_eq_false, ne_eq, implies_true, Nat.not_lt_zero, Nat.zero_le, ite_min, max0, Nat.reduceLT, Nat.reduceLeDiff, Nat.reduceEqDiff, Nat.reduceAdd, Nat.reduceMul]
  try simp only [m1u]
  exact nxt _ _ _ ⟨by rw [mM_o (by omega)]; exact h1', S', L', tb', tl', fk', fp', kp', I', W', A', s', mM.eq (f0 := f1) (fun _ _ _ => rfl), hX1.off (fun x hx => mM_o hx), hR'⟩
theorem t_br_12 (hG : Ok G) (hi : X.i = 212) (hd : X.d = d) (hd1 : 42 ≤ d) (hQ : ∀ n z f, X.Q (some (.int 1)) n z f) (hsp : 1000000 ≤ sp) (hlen : len ≤ 3072) (h6 : 6 * i + 6 ≤ len) (nxt : ∀ n z f, WX sp len scr (i + 1) f n z → V G X 916 [.ref sp, .ref 0, .ref 31, .int (nI (6 * i))] [] n z f) (hW : WX sp len scr i f n z) : V G X 518 [.ref sp, .ref 0, .ref 31, .int (nI (6 * i))] [] n z f := by
  obtain ⟨h1, S, L, tb, tl, fk, fp, kp, I, W, A, s, hm, hX, hR⟩ := hW
  obtain ⟨o8, h0⟩ : ∃ fs, f 0 = cO 8 fs := by
    obtain ⟨lp, N, Z, K, ro, to, ko, -, h⟩ := id hX
    exact ⟨_, h.2.2.2.2.1⟩
  refine wp_sound (by rw [hi]; exact ok_L_law) (hd := [532, 546, 916]) 400 _ _ _ _ _ _ ?_
  simp only [wp, stp, List.mem_cons, List.not_mem_nil, Nat.reduceEqDiff, or_false, or_self, false_or, or_true, true_or, Nat.reduceAdd, ↓reduceIte, List.getElem?_cons_zero, List.getElem?_cons_succ, nthV, List.set_cons_zero, List.set_cons_succ, noL, popA, catS, Value.category, List.length_cons, List.length_nil, Nat.reduceLT, Nat.reduceLeDiff, true_and, and_true, one0, zer1, imp_t, imp_f, ofN_nI, sdead, f20, f21, not_true_eq_false, upC_ap, upC_upC, retC, fitC, isRefT, Option.toList_some, Option.toList_none, List.cons_append, List.nil_append, Nat.lt_add_one, Nat.zero_lt_succ, Nat.le_refl, Nat.add_zero, Nat.zero_add, Nat.one_ne_zero, Nat.zero_ne_one, Nat.lt_irrefl, List.length_set, fa_L_law_12, hi, hd, hQ, mr_L_law, h1, h0, tg_L_law, swt, lks, Int.reduceAdd]
  try simp only [m1f]
  try simp (disch := omega) only [nmod, nI_leI, nI_ltI, nI_eq, nI_clamp, vin_nI, nI_1, fa_lit, nI_add, nI_rm3, nI_rm2, pk_rem, pk_mul, pk_sub, pk_div, nI_eM, nI_Me, nI_pM, nI_pMz, nI_pM0, M1_lt, M1_le, nI_ltM, nI_leM, i8_nI, true_and, and_true, false_implies, true_implies, not_false_eq_true, not_true_eq_false, ne_eq, implies_true, Nat.not_lt_zero, Nat.zero_le, ite_min, max0, Nat.reduceLT, Nat.reduceLeDiff, Nat.reduceEqDiff, Nat.reduceAdd, Nat.reduceMul]
  try simp only [m1u]
  refine ⟨by omega, by omega, by omega, _, pr_of (i := i) hG (by omega) (by omega) hX (scr (6 * i + 1)) (scr (6 * i + 2)), ?_⟩
  rintro v n1 z1 f1 ⟨S', L', tb', tl', fk', fp', kp', ans, rfl, hX1, hF, h9⟩
  have h1' : f1 sp = cI len scr := (hF.2 sp hsp).trans h1
  have hm1 : f1 = mM f1 I W A s := mM.eq (f0 := f) (fun x a b => by rw [hF.1 x a b, ← hm])
  have h31 : f1 31 = cO 9 (mO I s.1) := by rw [hm1]; exact mM_31
  refine wp_sound (by rw [hi]; exact ok_L_law) (hd := [532, 546, 916]) 400 _ _ _ _ _ _ ?_
  simp only [wp, stp, List.mem_cons, List.not_mem_nil, Nat.reduceEqDiff, or_false, or_self, false_or, or_true, true_or, Nat.reduceAdd, ↓reduceIte, List.getElem?_cons_zero, List.getElem?_cons_succ, nthV, List.set_cons_zero, List.set_cons_succ, noL, popA, catS, Value.category, List.length_cons, List.length_nil, Nat.reduceLT, Nat.reduceLeDiff, true_and, and_true, one0, zer1, imp_t, imp_f, ofN_nI, sdead, f20, f21, not_true_eq_false, upC_ap, upC_upC, retC, fitC, isRefT, Option.toList_some, Option.toList_none, List.cons_append, List.nil_append, Nat.lt_add_one, Nat.zero_lt_succ, Nat.le_refl, Nat.add_zero, Nat.zero_add, Nat.one_ne_zero, Nat.zero_ne_one, Nat.lt_irrefl, List.length_set, fa_L_law_12, hi, hd, hQ, mr_L_law, h1', h31, tg_L_law, swt, lks, Int.reduceAdd]
  try simp only [m1f]
  try simp (disch := omega) only [nmod, nI_leI, nI_ltI, nI_eq, nI_clamp, vin_nI, nI_1, fa_lit, nI_add, nI_rm3, nI_rm2, pk_rem, pk_mul, pk_sub, pk_div, nI_eM, nI_Me, nI_pM, nI_pMz, nI_pM0, M1_lt, M1_le, nI_ltM, nI_leM, i8_nI, true_and, and_true, false_implies, true_implies, not_false_eq_true, not_true_eq_false, ne_eq, implies_true, Nat.not_lt_zero, Nat.zero_le, ite_min, max0, Nat.reduceLT, Nat.reduceLeDiff, Nat.reduceEqDiff, Nat.reduceAdd, Nat.reduceMul]
  try simp only [m1u]
  refine ⟨by omega, by omega, by omega, _, Tr.mem hm1 (h9 I W A s hR), ?_⟩
  rintro v n2 z2 f2 ⟨rfl, rfl, rfl, I', W', A', s', rfl, hR'⟩
  refine wp_sound (by rw [hi]; exact ok_L_law) (hd := [546, 916]) 400 _ _ _ _ _ _ ?_
  simp only [wp, stp, List.mem_cons, List.not_mem_nil, Nat.reduceEqDiff, or_false, or_self, false_or, or_true, true_or, Nat.reduceAdd, ↓reduceIte, List.getElem?_cons_zero, List.getElem?_cons_succ, nthV, List.set_cons_zero, List.set_cons_succ, noL, popA, catS, Value.category, List.length_cons, List.length_nil, Nat.reduceLT, Nat.reduceLeDiff, true_and, and_true, one0, zer1, imp_t, imp_f, ofN_nI, sdead, f20, f21, not_true_eq_false, upC_ap, upC_upC, retC, fitC, isRefT, Option.toList_some, Option.toList_none, List.cons_append, List.nil_append, Nat.lt_add_one, Nat.zero_lt_succ, Nat.le_refl, Nat.add_zero, Nat.zero_add, Nat.one_ne_zero, Nat.zero_ne_one, Nat.lt_irrefl, List.length_set, fa_L_law_12, hi, hd, hQ, mr_L_law, tg_L_law, swt, lks, Int.reduceAdd]
  try simp only [m1f]
  try simp (disch := omega) only [nmod, nI_leI, nI_ltI, nI_eq, nI_clamp, vin_nI, nI_1, fa_lit, nI_add, nI_rm3, nI_rm2, pk_rem, pk_mul, pk_sub, pk_div, nI_eM, nI_Me, nI_pM, nI_pMz, nI_pM0, M1_lt, M1_le, nI_ltM, nI_leM, i8_nI, true_and, and_true, false_implies, true_implies, not_false_eq_true, not_true_eq_false, ne_eq, implies_true, Nat.not_lt_zero, Nat.zero_le, ite_min, max0, Nat.reduceLT, Nat.reduceLeDiff, Nat.reduceEqDiff, Nat.reduceAdd, Nat.reduceMul]
  try simp only [m1u]
  exact nxt _ _ _ ⟨by rw [mM_o (by omega)]; exact h1', S', L', tb', tl', fk', fp', kp', I', W', A', s', mM.eq (f0 := f1) (fun _ _ _ => rfl), hX1.off (fun x hx => mM_o hx), hR'⟩
theorem t_br_13 (hG : Ok G) (hi : X.i = 212) (hd : X.d = d) (hd1 : 42 ≤ d) (hQ : ∀ n z f, X.Q (some (.int 1)) n z f) (hsp : 1000000 ≤ sp) (hlen : len ≤ 3072) (h6 : 6 * i + 6 ≤ len) (nxt : ∀ n z f, WX sp len scr (i + 1) f n z → V G X 916 [.ref sp, .ref 0, .ref 31, .int (nI (6 * i))] [] n z f) (hW : WX sp len scr i f n z) : V G X 551 [.ref sp, .ref 0, .ref 31, .int (nI (6 * i))] [] n z f := by
  obtain ⟨h1, S, L, tb, tl, fk, fp, kp, I, W, A, s, hm, hX, hR⟩ := hW
  obtain ⟨o8, h0⟩ : ∃ fs, f 0 = cO 8 fs := by
    obtain ⟨lp, N, Z, K, ro, to, ko, -, h⟩ := id hX
    exact ⟨_, h.2.2.2.2.1⟩
  refine wp_sound (by rw [hi]; exact ok_L_law) (hd := [565, 579, 916]) 400 _ _ _ _ _ _ ?_
  simp only [wp, stp, List.mem_cons, List.not_mem_nil, Nat.reduceEqDiff, or_false, or_self, false_or, or_true, true_or, Nat.reduceAdd, ↓reduceIte, List.getElem?_cons_zero, List.getElem?_cons_succ, nthV, List.set_cons_zero, List.set_cons_succ, noL, popA, catS, Value.category, List.length_cons, List.length_nil, Nat.reduceLT, Nat.reduceLeDiff, true_and, and_true, one0, zer1, imp_t, imp_f, ofN_nI, sdead, f20, f21, not_true_eq_false, upC_ap, upC_upC, retC, fitC, isRefT, Option.toList_some, Option.toList_none, List.cons_append, List.nil_append, Nat.lt_add_one, Nat.zero_lt_succ, Nat.le_refl, Nat.add_zero, Nat.zero_add, Nat.one_ne_zero, Nat.zero_ne_one, Nat.lt_irrefl, List.length_set, fa_L_law_13, hi, hd, hQ, mr_L_law, h1, h0, tg_L_law, swt, lks, Int.reduceAdd]
  try simp only [m1f]
  try simp (disch := omega) only [nmod, nI_leI, nI_ltI, nI_eq, nI_clamp, vin_nI, nI_1, fa_lit, nI_add, nI_rm3, nI_rm2, pk_rem, pk_mul, pk_sub, pk_div, nI_eM, nI_Me, nI_pM, nI_pMz, nI_pM0, M1_lt, M1_le, nI_ltM, nI_leM, i8_nI, true_and, and_true, false_implies, true_implies, not_false_eq_true, not_true_eq_false, ne_eq, implies_true, Nat.not_lt_zero, Nat.zero_le, ite_min, max0, Nat.reduceLT, Nat.reduceLeDiff, Nat.reduceEqDiff, Nat.reduceAdd, Nat.reduceMul]
  try simp only [m1u]
  refine ⟨by omega, by omega, by omega, _, pr_way (i := i) hG (by omega) (by omega) hX (scr (6 * i + 1)) (scr (6 * i + 2)), ?_⟩
  rintro v n1 z1 f1 ⟨S', L', tb', tl', fk', fp', kp', ans, rfl, hX1, hF, h9⟩
  have h1' : f1 sp = cI len scr := (hF.2 sp hsp).trans h1
  have hm1 : f1 = mM f1 I W A s := mM.eq (f0 := f) (fun x a b => by rw [hF.1 x a b, ← hm])
  have h31 : f1 31 = cO 9 (mO I s.1) := by rw [hm1]; exact mM_31
  refine wp_sound (by rw [hi]; exact ok_L_law) (hd := [565, 579, 916]) 400 _ _ _ _ _ _ ?_
  simp only [wp, stp, List.mem_cons, List.not_mem_nil, Nat.reduceEqDiff, or_false, or_self, false_or, or_true, true_or, Nat.reduceAdd, ↓reduceIte, List.getElem?_cons_zero, List.getElem?_cons_succ, nthV, List.set_cons_zero, List.set_cons_succ, noL, popA, catS, Value.category, List.length_cons, List.length_nil, Nat.reduceLT, Nat.reduceLeDiff, true_and, and_true, one0, zer1, imp_t, imp_f, ofN_nI, sdead, f20, f21, not_true_eq_false, upC_ap, upC_upC, retC, fitC, isRefT, Option.toList_some, Option.toList_none, List.cons_append, List.nil_append, Nat.lt_add_one, Nat.zero_lt_succ, Nat.le_refl, Nat.add_zero, Nat.zero_add, Nat.one_ne_zero, Nat.zero_ne_one, Nat.lt_irrefl, List.length_set, fa_L_law_13, hi, hd, hQ, mr_L_law, h1', h31, tg_L_law, swt, lks, Int.reduceAdd]
  try simp only [m1f]
  try simp (disch := omega) only [nmod, nI_leI, nI_ltI, nI_eq, nI_clamp, vin_nI, nI_1, fa_lit, nI_add, nI_rm3, nI_rm2, pk_rem, pk_mul, pk_sub, pk_div, nI_eM, nI_Me, nI_pM, nI_pMz, nI_pM0, M1_lt, M1_le, nI_ltM, nI_leM, i8_nI, true_and, and_true, false_implies, true_implies, not_false_eq_true, not_true_eq_false, ne_eq, implies_true, Nat.not_lt_zero, Nat.zero_le, ite_min, max0, Nat.reduceLT, Nat.reduceLeDiff, Nat.reduceEqDiff, Nat.reduceAdd, Nat.reduceMul]
  try simp only [m1u]
  refine ⟨by omega, by omega, by omega, _, Tr.mem hm1 (h9 I W A s hR), ?_⟩
  rintro v n2 z2 f2 ⟨rfl, rfl, rfl, I', W', A', s', rfl, hR'⟩
  refine wp_sound (by rw [hi]; exact ok_L_law) (hd := [579, 916]) 400 _ _ _ _ _ _ ?_
  simp only [wp, stp, List.mem_cons, List.not_mem_nil, Nat.reduceEqDiff, or_false, or_self, false_or, or_true, true_or, Nat.reduceAdd, ↓reduceIte, List.getElem?_cons_zero, List.getElem?_cons_succ, nthV, List.set_cons_zero, List.set_cons_succ, noL, popA, catS, Value.category, List.length_cons, List.length_nil, Nat.reduceLT, Nat.reduceLeDiff, true_and, and_true, one0, zer1, imp_t, imp_f, ofN_nI, sdead, f20, f21, not_true_eq_false, upC_ap, upC_upC, retC, fitC, isRefT, Option.toList_some, Option.toList_none, List.cons_append, List.nil_append, Nat.lt_add_one, Nat.zero_lt_succ, Nat.le_refl, Nat.add_zero, Nat.zero_add, Nat.one_ne_zero, Nat.zero_ne_one, Nat.lt_irrefl, List.length_set, fa_L_law_13, hi, hd, hQ, mr_L_law, tg_L_law, swt, lks, Int.reduceAdd]
  try simp only [m1f]
  try simp (disch := omega) only [nmod, nI_leI, nI_ltI, nI_eq, nI_clamp, vin_nI, nI_1, fa_lit, nI_add, nI_rm3, nI_rm2, pk_rem, pk_mul, pk_sub, pk_div, nI_eM, nI_Me, nI_pM, nI_pMz, nI_pM0, M1_lt, M1_le, nI_ltM, nI_leM, i8_nI, true_and, and_true, false_implies, true_implies, not_false_eq_true, not_true_eq_false, ne_eq, implies_true, Nat.not_lt_zero, Nat.zero_le, ite_min, max0, Nat.reduceLT, Nat.reduceLeDiff, Nat.reduceEqDiff, Nat.reduceAdd, Nat.reduceMul]
  try simp only [m1u]
  exact nxt _ _ _ ⟨by rw [mM_o (by omega)]; exact h1', S', L', tb', tl', fk', fp', kp', I', W', A', s', mM.eq (f0 := f1) (fun _ _ _ => rfl), hX1.off (fun x hx => mM_o hx), hR'⟩
theorem t_br_14 (hG : Ok G) (hi : X.i = 212) (hd : X.d = d) (hd1 : 42 ≤ d) (hQ : ∀ n z f, X.Q (some (.int 1)) n z f) (hsp : 1000000 ≤ sp) (hlen : len ≤ 3072) (h6 : 6 * i + 6 ≤ len) (nxt : ∀ n z f, WX sp len scr (i + 1) f n z → V G X 916 [.ref sp, .ref 0, .ref 31, .int (nI (6 * i))] [] n z f) (hW : WX sp len scr i f n z) : V G X 584 [.ref sp, .ref 0, .ref 31, .int (nI (6 * i))] [] n z f := by
  obtain ⟨h1, S, L, tb, tl, fk, fp, kp, I, W, A, s, hm, hX, hR⟩ := hW
  obtain ⟨o8, h0⟩ : ∃ fs, f 0 = cO 8 fs := by
    obtain ⟨lp, N, Z, K, ro, to, ko, -, h⟩ := id hX
    exact ⟨_, h.2.2.2.2.1⟩
  refine wp_sound (by rw [hi]; exact ok_L_law) (hd := [598, 612, 916]) 400 _ _ _ _ _ _ ?_
  simp only [wp, stp, List.mem_cons, List.not_mem_nil, Nat.reduceEqDiff, or_false, or_self, false_or, or_true, true_or, Nat.reduceAdd, ↓reduceIte, List.getElem?_cons_zero, List.getElem?_cons_succ, nthV, List.set_cons_zero, List.set_cons_succ, noL, popA, catS, Value.category, List.length_cons, List.length_nil, Nat.reduceLT, Nat.reduceLeDiff, true_and, and_true, one0, zer1, imp_t, imp_f, ofN_nI, sdead, f20, f21, not_true_eq_false, upC_ap, upC_upC, retC, fitC, isRefT, Option.toList_some, Option.toList_none, List.cons_append, List.nil_append, Nat.lt_add_one, Nat.zero_lt_succ, Nat.le_refl, Nat.add_zero, Nat.zero_add, Nat.one_ne_zero, Nat.zero_ne_one, Nat.lt_irrefl, List.length_set, fa_L_law_14, hi, hd, hQ, mr_L_law, h1, h0, tg_L_law, swt, lks, Int.reduceAdd]
  try simp only [m1f]
  try simp (disch := omega) only [nmod, nI_leI, nI_ltI, nI_eq, nI_clamp, vin_nI, nI_1, fa_lit, nI_add, nI_rm3, nI_rm2, pk_rem, pk_mul, pk_sub, pk_div, nI_eM, nI_Me, nI_pM, nI_pMz, nI_pM0, M1_lt, M1_le, nI_ltM, nI_leM, i8_nI, true_and, and_true, false_implies, true_implies, not_false_eq_true, not_true_eq_false, ne_eq, implies_true, Nat.not_lt_zero, Nat.zero_le, ite_min, max0, Nat.reduceLT, Nat.reduceLeDiff, Nat.reduceEqDiff, Nat.reduceAdd, Nat.reduceMul]
  try simp only [m1u]
  refine ⟨by omega, by omega, by omega, _, pr_at (i := i) hG (by omega) (by omega) hX (scr (6 * i + 1)) (scr (6 * i + 2)), ?_⟩
  rintro v n1 z1 f1 ⟨S', L', tb', tl', fk', fp', kp', ans, rfl, hX1, hF, h9⟩
  have h1' : f1 sp = cI len scr := (hF.2 sp hsp).trans h1
  have hm1 : f1 = mM f1 I W A s := mM.eq (f0 := f) (fun x a b => by rw [hF.1 x a b, ← hm])
  have h31 : f1 31 = cO 9 (mO I s.1) := by rw [hm1]; exact mM_31
  refine wp_sound (by rw [hi]; exact ok_L_law) (hd := [598, 612, 916]) 400 _ _ _ _ _ _ ?_
  simp only [wp, stp, List.mem_cons, List.not_mem_nil, Nat.reduceEqDiff, or_false, or_self, false_or, or_true, true_or, Nat.reduceAdd, ↓reduceIte, List.getElem?_cons_zero, List.getElem?_cons_succ, nthV, List.set_cons_zero, List.set_cons_succ, noL, popA, catS, Value.category, List.length_cons, List.length_nil, Nat.reduceLT, Nat.reduceLeDiff, true_and, and_true, one0, zer1, imp_t, imp_f, ofN_nI, sdead, f20, f21, not_true_eq_false, upC_ap, upC_upC, retC, fitC, isRefT, Option.toList_some, Option.toList_none, List.cons_append, List.nil_append, Nat.lt_add_one, Nat.zero_lt_succ, Nat.le_refl, Nat.add_zero, Nat.zero_add, Nat.one_ne_zero, Nat.zero_ne_one, Nat.lt_irrefl, List.length_set, fa_L_law_14, hi, hd, hQ, mr_L_law, h1', h31, tg_L_law, swt, lks, Int.reduceAdd]
  try simp only [m1f]
  try simp (disch := omega) only [nmod, nI_leI, nI_ltI, nI_eq, nI_clamp, vin_nI, nI_1, fa_lit, nI_add, nI_rm3, nI_rm2, pk_rem, pk_mul, pk_sub, pk_div, nI_eM, nI_Me, nI_pM, nI_pMz, nI_pM0, M1_lt, M1_le, nI_ltM, nI_leM, i8_nI, true_and, and_true, false_implies, true_implies, not_false_eq_true, not_true_eq_false, ne_eq, implies_true, Nat.not_lt_zero, Nat.zero_le, ite_min, max0, Nat.reduceLT, Nat.reduceLeDiff, Nat.reduceEqDiff, Nat.reduceAdd, Nat.reduceMul]
  try simp only [m1u]
  refine ⟨by omega, by omega, by omega, _, Tr.mem hm1 (h9 I W A s hR), ?_⟩
  rintro v n2 z2 f2 ⟨rfl, rfl, rfl, I', W', A', s', rfl, hR'⟩
  refine wp_sound (by rw [hi]; exact ok_L_law) (hd := [612, 916]) 400 _ _ _ _ _ _ ?_
  simp only [wp, stp, List.mem_cons, List.not_mem_nil, Nat.reduceEqDiff, or_false, or_self, false_or, or_true, true_or, Nat.reduceAdd, ↓reduceIte, List.getElem?_cons_zero, List.getElem?_cons_succ, nthV, List.set_cons_zero, List.set_cons_succ, noL, popA, catS, Value.category, List.length_cons, List.length_nil, Nat.reduceLT, Nat.reduceLeDiff, true_and, and_true, one0, zer1, imp_t, imp_f, ofN_nI, sdead, f20, f21, not_true_eq_false, upC_ap, upC_upC, retC, fitC, isRefT, Option.toList_some, Option.toList_none, List.cons_append, List.nil_append, Nat.lt_add_one, Nat.zero_lt_succ, Nat.le_refl, Nat.add_zero, Nat.zero_add, Nat.one_ne_zero, Nat.zero_ne_one, Nat.lt_irrefl, List.length_set, fa_L_law_14, hi, hd, hQ, mr_L_law, tg_L_law, swt, lks, Int.reduceAdd]
  try simp only [m1f]
  try simp (disch := omega) only [nmod, nI_leI, nI_ltI, nI_eq, nI_clamp, vin_nI, nI_1, fa_lit, nI_add, nI_rm3, nI_rm2, pk_rem, pk_mul, pk_sub, pk_div, nI_eM, nI_Me, nI_pM, nI_pMz, nI_pM0, M1_lt, M1_le, nI_ltM, nI_leM, i8_nI, true_and, and_true, false_implies, true_implies, not_false_eq_true, not_true_eq_false, ne_eq, implies_true, Nat.not_lt_zero, Nat.zero_le, ite_min, max0, Nat.reduceLT, Nat.reduceLeDiff, Nat.reduceEqDiff, Nat.reduceAdd, Nat.reduceMul]
  try simp only [m1u]
  exact nxt _ _ _ ⟨by rw [mM_o (by omega)]; exact h1', S', L', tb', tl', fk', fp', kp', I', W', A', s', mM.eq (f0 := f1) (fun _ _ _ => rfl), hX1.off (fun x hx => mM_o hx), hR'⟩
theorem t_br_15 (hG : Ok G) (hi : X.i = 212) (hd : X.d = d) (hd1 : 42 ≤ d) (hQ : ∀ n z f, X.Q (some (.int 1)) n z f) (hsp : 1000000 ≤ sp) (hlen : len ≤ 3072) (h6 : 6 * i + 6 ≤ len) (nxt : ∀ n z f, WX sp len scr (i + 1) f n z → V G X 916 [.ref sp, .ref 0, .ref 31, .int (nI (6 * i))] [] n z f) (hW : WX sp len scr i f n z) : V G X 617 [.ref sp, .ref 0, .ref 31, .int (nI (6 * i))] [] n z f := by
  obtain ⟨h1, S, L, tb, tl, fk, fp, kp, I, W, A, s, hm, hX, hR⟩ := hW
  obtain ⟨o8, h0⟩ : ∃ fs, f 0 = cO 8 fs := by
    obtain ⟨lp, N, Z, K, ro, to, ko, -, h⟩ := id hX
    exact ⟨_, h.2.2.2.2.1⟩
  refine wp_sound (by rw [hi]; exact ok_L_law) (hd := [626, 635, 916]) 400 _ _ _ _ _ _ ?_
  simp only [wp, stp, List.mem_cons, List.not_mem_nil, Nat.reduceEqDiff, or_false, or_self, false_or, or_true, true_or, Nat.reduceAdd, ↓reduceIte, List.getElem?_cons_zero, List.getElem?_cons_succ, nthV, List.set_cons_zero, List.set_cons_succ, noL, popA, catS, Value.category, List.length_cons, List.length_nil, Nat.reduceLT, Nat.reduceLeDiff, true_and, and_true, one0, zer1, imp_t, imp_f, ofN_nI, sdead, f20, f21, not_true_eq_false, upC_ap, upC_upC, retC, fitC, isRefT, Option.toList_some, Option.toList_none, List.cons_append, List.nil_append, Nat.lt_add_one, Nat.zero_lt_succ, Nat.le_refl, Nat.add_zero, Nat.zero_add, Nat.one_ne_zero, Nat.zero_ne_one, Nat.lt_irrefl, List.length_set, fa_L_law_15, hi, hd, hQ, mr_L_law, h1, h0, tg_L_law, swt, lks, Int.reduceAdd]
  try simp only [m1f]
  try simp (disch := omega) only [nmod, nI_leI, nI_ltI, nI_eq, nI_clamp, vin_nI, nI_1, fa_lit, nI_add, nI_rm3, nI_rm2, pk_rem, pk_mul, pk_sub, pk_div, nI_eM, nI_Me, nI_pM, nI_pMz, nI_pM0, M1_lt, M1_le, nI_ltM, nI_leM, i8_nI, true_and, and_true, false_implies, true_implies, not_false_eq_true, not_true_eq_false, ne_eq, implies_true, Nat.not_lt_zero, Nat.zero_le, ite_min, max0, Nat.reduceLT, Nat.reduceLeDiff, Nat.reduceEqDiff, Nat.reduceAdd, Nat.reduceMul]
  try simp only [m1u]
  refine ⟨by omega, by omega, _, pr_rest (i := i) hG (by omega) (by omega) hX (scr (6 * i + 1)), ?_⟩
  rintro v n1 z1 f1 ⟨S', L', tb', tl', fk', fp', kp', ans, rfl, hX1, hF, h9⟩
  have h1' : f1 sp = cI len scr := (hF.2 sp hsp).trans h1
  have hm1 : f1 = mM f1 I W A s := mM.eq (f0 := f) (fun x a b => by rw [hF.1 x a b, ← hm])
  have h31 : f1 31 = cO 9 (mO I s.1) := by rw [hm1]; exact mM_31
  refine wp_sound (by rw [hi]; exact ok_L_law) (hd := [626, 635, 916]) 400 _ _ _ _ _ _ ?_
  simp only [wp, stp, List.mem_cons, List.not_mem_nil, Nat.reduceEqDiff, or_false, or_self, false_or, or_true, true_or, Nat.reduceAdd, ↓reduceIte, List.getElem?_cons_zero, List.getElem?_cons_succ, nthV, List.set_cons_zero, List.set_cons_succ, noL, popA, catS, Value.category, List.length_cons, List.length_nil, Nat.reduceLT, Nat.reduceLeDiff, true_and, and_true, one0, zer1, imp_t, imp_f, ofN_nI, sdead, f20, f21, not_true_eq_false, upC_ap, upC_upC, retC, fitC, isRefT, Option.toList_some, Option.toList_none, List.cons_append, List.nil_append, Nat.lt_add_one, Nat.zero_lt_succ, Nat.le_refl, Nat.add_zero, Nat.zero_add, Nat.one_ne_zero, Nat.zero_ne_one, Nat.lt_irrefl, List.length_set, fa_L_law_15, hi, hd, hQ, mr_L_law, h1', h31, tg_L_law, swt, lks, Int.reduceAdd]
  try simp only [m1f]
  try simp (disch := omega) only [nmod, nI_leI, nI_ltI, nI_eq, nI_clamp, vin_nI, nI_1, fa_lit, nI_add, nI_rm3, nI_rm2, pk_rem, pk_mul, pk_sub, pk_div, nI_eM, nI_Me, nI_pM, nI_pMz, nI_pM0, M1_lt, M1_le, nI_ltM, nI_leM, i8_nI, true_and, and_true, false_implies, true_implies, not_false_eq_true, not_true_eq_false, ne_eq, implies_true, Nat.not_lt_zero, Nat.zero_le, ite_min, max0, Nat.reduceLT, Nat.reduceLeDiff, Nat.reduceEqDiff, Nat.reduceAdd, Nat.reduceMul]
  try simp only [m1u]
  refine ⟨by omega, by omega, _, Tr.mem hm1 (h9 I W A s hR), ?_⟩
  rintro v n2 z2 f2 ⟨rfl, rfl, rfl, I', W', A', s', rfl, hR'⟩
  refine wp_sound (by rw [hi]; exact ok_L_law) (hd := [635, 916]) 400 _ _ _ _ _ _ ?_
  simp only [wp, stp, List.mem_cons, List.not_mem_nil, Nat.reduceEqDiff, or_false, or_self, false_or, or_true, true_or, Nat.reduceAdd, ↓reduceIte, List.getElem?_cons_zero, List.getElem?_cons_succ, nthV, List.set_cons_zero, List.set_cons_succ, noL, popA, catS, Value.category, List.length_cons, List.length_nil, Nat.reduceLT, Nat.reduceLeDiff, true_and, and_true, one0, zer1, imp_t, imp_f, ofN_nI, sdead, f20, f21, not_true_eq_false, upC_ap, upC_upC, retC, fitC, isRefT, Option.toList_some, Option.toList_none, List.cons_append, List.nil_append, Nat.lt_add_one, Nat.zero_lt_succ, Nat.le_refl, Nat.add_zero, Nat.zero_add, Nat.one_ne_zero, Nat.zero_ne_one, Nat.lt_irrefl, List.length_set, fa_L_law_15, hi, hd, hQ, mr_L_law, tg_L_law, swt, lks, Int.reduceAdd]
  try simp only [m1f]
  try simp (disch := omega) only [nmod, nI_leI, nI_ltI, nI_eq, nI_clamp, vin_nI, nI_1, fa_lit, nI_add, nI_rm3, nI_rm2, pk_rem, pk_mul, pk_sub, pk_div, nI_eM, nI_Me, nI_pM, nI_pMz, nI_pM0, M1_lt, M1_le, nI_ltM, nI_leM, i8_nI, true_and, and_true, false_implies, true_implies, not_false_eq_true, not_true_eq_false, ne_eq, implies_true, Nat.not_lt_zero, Nat.zero_le, ite_min, max0, Nat.reduceLT, Nat.reduceLeDiff, Nat.reduceEqDiff, Nat.reduceAdd, Nat.reduceMul]
  try simp only [m1u]
  exact nxt _ _ _ ⟨by rw [mM_o (by omega)]; exact h1', S', L', tb', tl', fk', fp', kp', I', W', A', s', mM.eq (f0 := f1) (fun _ _ _ => rfl), hX1.off (fun x hx => mM_o hx), hR'⟩
theorem t_br_16 (hG : Ok G) (hi : X.i = 212) (hd : X.d = d) (hd1 : 42 ≤ d) (hQ : ∀ n z f, X.Q (some (.int 1)) n z f) (hsp : 1000000 ≤ sp) (hlen : len ≤ 3072) (h6 : 6 * i + 6 ≤ len) (nxt : ∀ n z f, WX sp len scr (i + 1) f n z → V G X 916 [.ref sp, .ref 0, .ref 31, .int (nI (6 * i))] [] n z f) (hW : WX sp len scr i f n z) : V G X 640 [.ref sp, .ref 0, .ref 31, .int (nI (6 * i))] [] n z f := by
  obtain ⟨h1, S, L, tb, tl, fk, fp, kp, I, W, A, s, hm, hX, hR⟩ := hW
  obtain ⟨o8, h0⟩ : ∃ fs, f 0 = cO 8 fs := by
    obtain ⟨lp, N, Z, K, ro, to, ko, -, h⟩ := id hX
    exact ⟨_, h.2.2.2.2.1⟩
  refine wp_sound (by rw [hi]; exact ok_L_law) (hd := [654, 668, 916]) 400 _ _ _ _ _ _ ?_
  simp only [wp, stp, List.mem_cons, List.not_mem_nil, Nat.reduceEqDiff, or_false, or_self, false_or, or_true, true_or, Nat.reduceAdd, ↓reduceIte, List.getElem?_cons_zero, List.getElem?_cons_succ, nthV, List.set_cons_zero, List.set_cons_succ, noL, popA, catS, Value.category, List.length_cons, List.length_nil, Nat.reduceLT, Nat.reduceLeDiff, true_and, and_true, one0, zer1, imp_t, imp_f, ofN_nI, sdead, f20, f21, not_true_eq_false, upC_ap, upC_upC, retC, fitC, isRefT, Option.toList_some, Option.toList_none, List.cons_append, List.nil_append, Nat.lt_add_one, Nat.zero_lt_succ, Nat.le_refl, Nat.add_zero, Nat.zero_add, Nat.one_ne_zero, Nat.zero_ne_one, Nat.lt_irrefl, List.length_set, fa_L_law_16, hi, hd, hQ, mr_L_law, h1, h0, tg_L_law, swt, lks, Int.reduceAdd]
  try simp only [m1f]
  try simp (disch := omega) only [nmod, nI_leI, nI_ltI, nI_eq, nI_clamp, vin_nI, nI_1, fa_lit, nI_add, nI_rm3, nI_rm2, pk_rem, pk_mul, pk_sub, pk_div, nI_eM, nI_Me, nI_pM, nI_pMz, nI_pM0, M1_lt, M1_le, nI_ltM, nI_leM, i8_nI, true_and, and_true, false_implies, true_implies, not_false_eq_true, not_true_eq_false, ne_eq, implies_true, Nat.not_lt_zero, Nat.zero_le, ite_min, max0, Nat.reduceLT, Nat.reduceLeDiff, Nat.reduceEqDiff, Nat.reduceAdd, Nat.reduceMul]
  try simp only [m1u]
  refine ⟨by omega, by omega, by omega, _, pr_placings (i := i) hG (by omega) (by omega) hX (scr (6 * i + 1)) (scr (6 * i + 2)), ?_⟩
  rintro v n1 z1 f1 ⟨S', L', tb', tl', fk', fp', kp', ans, rfl, hX1, hF, h9⟩
  have h1' : f1 sp = cI len scr := (hF.2 sp hsp).trans h1
  have hm1 : f1 = mM f1 I W A s := mM.eq (f0 := f) (fun x a b => by rw [hF.1 x a b, ← hm])
  have h31 : f1 31 = cO 9 (mO I s.1) := by rw [hm1]; exact mM_31
  refine wp_sound (by rw [hi]; exact ok_L_law) (hd := [654, 668, 916]) 400 _ _ _ _ _ _ ?_
  simp only [wp, stp, List.mem_cons, List.not_mem_nil, Nat.reduceEqDiff, or_false, or_self, false_or, or_true, true_or, Nat.reduceAdd, ↓reduceIte, List.getElem?_cons_zero, List.getElem?_cons_succ, nthV, List.set_cons_zero, List.set_cons_succ, noL, popA, catS, Value.category, List.length_cons, List.length_nil, Nat.reduceLT, Nat.reduceLeDiff, true_and, and_true, one0, zer1, imp_t, imp_f, ofN_nI, sdead, f20, f21, not_true_eq_false, upC_ap, upC_upC, retC, fitC, isRefT, Option.toList_some, Option.toList_none, List.cons_append, List.nil_append, Nat.lt_add_one, Nat.zero_lt_succ, Nat.le_refl, Nat.add_zero, Nat.zero_add, Nat.one_ne_zero, Nat.zero_ne_one, Nat.lt_irrefl, List.length_set, fa_L_law_16, hi, hd, hQ, mr_L_law, h1', h31, tg_L_law, swt, lks, Int.reduceAdd]
  try simp only [m1f]
  try simp (disch := omega) only [nmod, nI_leI, nI_ltI, nI_eq, nI_clamp, vin_nI, nI_1, fa_lit, nI_add, nI_rm3, nI_rm2, pk_rem, pk_mul, pk_sub, pk_div, nI_eM, nI_Me, nI_pM, nI_pMz, nI_pM0, M1_lt, M1_le, nI_ltM, nI_leM, i8_nI, true_and, and_true, false_implies, true_implies, not_false_eq_true, not_true_eq_false, ne_eq, implies_true, Nat.not_lt_zero, Nat.zero_le, ite_min, max0, Nat.reduceLT, Nat.reduceLeDiff, Nat.reduceEqDiff, Nat.reduceAdd, Nat.reduceMul]
  try simp only [m1u]
  refine ⟨by omega, by omega, by omega, _, Tr.mem hm1 (h9 I W A s hR), ?_⟩
  rintro v n2 z2 f2 ⟨rfl, rfl, rfl, I', W', A', s', rfl, hR'⟩
  refine wp_sound (by rw [hi]; exact ok_L_law) (hd := [668, 916]) 400 _ _ _ _ _ _ ?_
  simp only [wp, stp, List.mem_cons, List.not_mem_nil, Nat.reduceEqDiff, or_false, or_self, false_or, or_true, true_or, Nat.reduceAdd, ↓reduceIte, List.getElem?_cons_zero, List.getElem?_cons_succ, nthV, List.set_cons_zero, List.set_cons_succ, noL, popA, catS, Value.category, List.length_cons, List.length_nil, Nat.reduceLT, Nat.reduceLeDiff, true_and, and_true, one0, zer1, imp_t, imp_f, ofN_nI, sdead, f20, f21, not_true_eq_false, upC_ap, upC_upC, retC, fitC, isRefT, Option.toList_some, Option.toList_none, List.cons_append, List.nil_append, Nat.lt_add_one, Nat.zero_lt_succ, Nat.le_refl, Nat.add_zero, Nat.zero_add, Nat.one_ne_zero, Nat.zero_ne_one, Nat.lt_irrefl, List.length_set, fa_L_law_16, hi, hd, hQ, mr_L_law, tg_L_law, swt, lks, Int.reduceAdd]
  try simp only [m1f]
  try simp (disch := omega) only [nmod, nI_leI, nI_ltI, nI_eq, nI_clamp, vin_nI, nI_1, fa_lit, nI_add, nI_rm3, nI_rm2, pk_rem, pk_mul, pk_sub, pk_div, nI_eM, nI_Me, nI_pM, nI_pMz, nI_pM0, M1_lt, M1_le, nI_ltM, nI_leM, i8_nI, true_and, and_true, false_implies, true_implies, not_false_eq_true, not_true_eq_false, ne_eq, implies_true, Nat.not_lt_zero, Nat.zero_le, ite_min, max0, Nat.reduceLT, Nat.reduceLeDiff, Nat.reduceEqDiff, Nat.reduceAdd, Nat.reduceMul]
  try simp only [m1u]
  exact nxt _ _ _ ⟨by rw [mM_o (by omega)]; exact h1', S', L', tb', tl', fk', fp', kp', I', W', A', s', mM.eq (f0 := f1) (fun _ _ _ => rfl), hX1.off (fun x hx => mM_o hx), hR'⟩
theorem t_br_17 (hG : Ok G) (hi : X.i = 212) (hd : X.d = d) (hd1 : 42 ≤ d) (hQ : ∀ n z f, X.Q (some (.int 1)) n z f) (hsp : 1000000 ≤ sp) (hlen : len ≤ 3072) (h6 : 6 * i + 6 ≤ len) (nxt : ∀ n z f, WX sp len scr (i + 1) f n z → V G X 916 [.ref sp, .ref 0, .ref 31, .int (nI (6 * i))] [] n z f) (hW : WX sp len scr i f n z) : V G X 673 [.ref sp, .ref 0, .ref 31, .int (nI (6 * i))] [] n z f := by
  obtain ⟨h1, S, L, tb, tl, fk, fp, kp, I, W, A, s, hm, hX, hR⟩ := hW
  obtain ⟨o8, h0⟩ : ∃ fs, f 0 = cO 8 fs := by
    obtain ⟨lp, N, Z, K, ro, to, ko, -, h⟩ := id hX
    exact ⟨_, h.2.2.2.2.1⟩
  refine wp_sound (by rw [hi]; exact ok_L_law) (hd := [682, 691, 916]) 400 _ _ _ _ _ _ ?_
  simp only [wp, stp, List.mem_cons, List.not_mem_nil, Nat.reduceEqDiff, or_false, or_self, false_or, or_true, true_or, Nat.reduceAdd, ↓reduceIte, List.getElem?_cons_zero, List.getElem?_cons_succ, nthV, List.set_cons_zero, List.set_cons_succ, noL, popA, catS, Value.category, List.length_cons, List.length_nil, Nat.reduceLT, Nat.reduceLeDiff, true_and, and_true, one0, zer1, imp_t, imp_f, ofN_nI, sdead, f20, f21, not_true_eq_false, upC_ap, upC_upC, retC, fitC, isRefT, Option.toList_some, Option.toList_none, List.cons_append, List.nil_append, Nat.lt_add_one, Nat.zero_lt_succ, Nat.le_refl, Nat.add_zero, Nat.zero_add, Nat.one_ne_zero, Nat.zero_ne_one, Nat.lt_irrefl, List.length_set, fa_L_law_17, hi, hd, hQ, mr_L_law, h1, h0, tg_L_law, swt, lks, Int.reduceAdd]
  try simp only [m1f]
  try simp (disch := omega) only [nmod, nI_leI, nI_ltI, nI_eq, nI_clamp, vin_nI, nI_1, fa_lit, nI_add, nI_rm3, nI_rm2, pk_rem, pk_mul, pk_sub, pk_div, nI_eM, nI_Me, nI_pM, nI_pMz, nI_pM0, M1_lt, M1_le, nI_ltM, nI_leM, i8_nI, true_and, and_true, false_implies, true_implies, not_false_eq_true, not_true_eq_false, ne_eq, implies_true, Nat.not_lt_zero, Nat.zero_le, ite_min, max0, Nat.reduceLT, Nat.reduceLeDiff, Nat.reduceEqDiff, Nat.reduceAdd, Nat.reduceMul]
  try simp only [m1u]
  refine ⟨by omega, by omega, _, pr_saves (i := i) hG (by omega) (by omega) hX (scr (6 * i + 1)), ?_⟩
  rintro v n1 z1 f1 ⟨S', L', tb', tl', fk', fp', kp', ans, rfl, hX1, hF, h9⟩
  have h1' : f1 sp = cI len scr := (hF.2 sp hsp).trans h1
  have hm1 : f1 = mM f1 I W A s := mM.eq (f0 := f) (fun x a b => by rw [hF.1 x a b, ← hm])
  have h31 : f1 31 = cO 9 (mO I s.1) := by rw [hm1]; exact mM_31
  refine wp_sound (by rw [hi]; exact ok_L_law) (hd := [682, 691, 916]) 400 _ _ _ _ _ _ ?_
  simp only [wp, stp, List.mem_cons, List.not_mem_nil, Nat.reduceEqDiff, or_false, or_self, false_or, or_true, true_or, Nat.reduceAdd, ↓reduceIte, List.getElem?_cons_zero, List.getElem?_cons_succ, nthV, List.set_cons_zero, List.set_cons_succ, noL, popA, catS, Value.category, List.length_cons, List.length_nil, Nat.reduceLT, Nat.reduceLeDiff, true_and, and_true, one0, zer1, imp_t, imp_f, ofN_nI, sdead, f20, f21, not_true_eq_false, upC_ap, upC_upC, retC, fitC, isRefT, Option.toList_some, Option.toList_none, List.cons_append, List.nil_append, Nat.lt_add_one, Nat.zero_lt_succ, Nat.le_refl, Nat.add_zero, Nat.zero_add, Nat.one_ne_zero, Nat.zero_ne_one, Nat.lt_irrefl, List.length_set, fa_L_law_17, hi, hd, hQ, mr_L_law, h1', h31, tg_L_law, swt, lks, Int.reduceAdd]
  try simp only [m1f]
  try simp (disch := omega) only [nmod, nI_leI, nI_ltI, nI_eq, nI_clamp, vin_nI, nI_1, fa_lit, nI_add, nI_rm3, nI_rm2, pk_rem, pk_mul, pk_sub, pk_div, nI_eM, nI_Me, nI_pM, nI_pMz, nI_pM0, M1_lt, M1_le, nI_ltM, nI_leM, i8_nI, true_and, and_true, false_implies, true_implies, not_false_eq_true, not_true_eq_false, ne_eq, implies_true, Nat.not_lt_zero, Nat.zero_le, ite_min, max0, Nat.reduceLT, Nat.reduceLeDiff, Nat.reduceEqDiff, Nat.reduceAdd, Nat.reduceMul]
  try simp only [m1u]
  refine ⟨by omega, by omega, _, Tr.mem hm1 (h9 I W A s hR), ?_⟩
  rintro v n2 z2 f2 ⟨rfl, rfl, rfl, I', W', A', s', rfl, hR'⟩
  refine wp_sound (by rw [hi]; exact ok_L_law) (hd := [691, 916]) 400 _ _ _ _ _ _ ?_
  simp only [wp, stp, List.mem_cons, List.not_mem_nil, Nat.reduceEqDiff, or_false, or_self, false_or, or_true, true_or, Nat.reduceAdd, ↓reduceIte, List.getElem?_cons_zero, List.getElem?_cons_succ, nthV, List.set_cons_zero, List.set_cons_succ, noL, popA, catS, Value.category, List.length_cons, List.length_nil, Nat.reduceLT, Nat.reduceLeDiff, true_and, and_true, one0, zer1, imp_t, imp_f, ofN_nI, sdead, f20, f21, not_true_eq_false, upC_ap, upC_upC, retC, fitC, isRefT, Option.toList_some, Option.toList_none, List.cons_append, List.nil_append, Nat.lt_add_one, Nat.zero_lt_succ, Nat.le_refl, Nat.add_zero, Nat.zero_add, Nat.one_ne_zero, Nat.zero_ne_one, Nat.lt_irrefl, List.length_set, fa_L_law_17, hi, hd, hQ, mr_L_law, tg_L_law, swt, lks, Int.reduceAdd]
  try simp only [m1f]
  try simp (disch := omega) only [nmod, nI_leI, nI_ltI, nI_eq, nI_clamp, vin_nI, nI_1, fa_lit, nI_add, nI_rm3, nI_rm2, pk_rem, pk_mul, pk_sub, pk_div, nI_eM, nI_Me, nI_pM, nI_pMz, nI_pM0, M1_lt, M1_le, nI_ltM, nI_leM, i8_nI, true_and, and_true, false_implies, true_implies, not_false_eq_true, not_true_eq_false, ne_eq, implies_true, Nat.not_lt_zero, Nat.zero_le, ite_min, max0, Nat.reduceLT, Nat.reduceLeDiff, Nat.reduceEqDiff, Nat.reduceAdd, Nat.reduceMul]
  try simp only [m1u]
  exact nxt _ _ _ ⟨by rw [mM_o (by omega)]; exact h1', S', L', tb', tl', fk', fp', kp', I', W', A', s', mM.eq (f0 := f1) (fun _ _ _ => rfl), hX1.off (fun x hx => mM_o hx), hR'⟩
theorem t_br_18 (hG : Ok G) (hi : X.i = 212) (hd : X.d = d) (hd1 : 42 ≤ d) (hQ : ∀ n z f, X.Q (some (.int 1)) n z f) (hsp : 1000000 ≤ sp) (hlen : len ≤ 3072) (h6 : 6 * i + 6 ≤ len) (nxt : ∀ n z f, WX sp len scr (i + 1) f n z → V G X 916 [.ref sp, .ref 0, .ref 31, .int (nI (6 * i))] [] n z f) (hW : WX sp len scr i f n z) : V G X 696 [.ref sp, .ref 0, .ref 31, .int (nI (6 * i))] [] n z f := by
  obtain ⟨h1, S, L, tb, tl, fk, fp, kp, I, W, A, s, hm, hX, hR⟩ := hW
  obtain ⟨o8, h0⟩ : ∃ fs, f 0 = cO 8 fs := by
    obtain ⟨lp, N, Z, K, ro, to, ko, -, h⟩ := id hX
    exact ⟨_, h.2.2.2.2.1⟩
  refine wp_sound (by rw [hi]; exact ok_L_law) (hd := [700, 704, 916]) 400 _ _ _ _ _ _ ?_
  simp only [wp, stp, List.mem_cons, List.not_mem_nil, Nat.reduceEqDiff, or_false, or_self, false_or, or_true, true_or, Nat.reduceAdd, ↓reduceIte, List.getElem?_cons_zero, List.getElem?_cons_succ, nthV, List.set_cons_zero, List.set_cons_succ, noL, popA, catS, Value.category, List.length_cons, List.length_nil, Nat.reduceLT, Nat.reduceLeDiff, true_and, and_true, one0, zer1, imp_t, imp_f, ofN_nI, sdead, f20, f21, not_true_eq_false, upC_ap, upC_upC, retC, fitC, isRefT, Option.toList_some, Option.toList_none, List.cons_append, List.nil_append, Nat.lt_add_one, Nat.zero_lt_succ, Nat.le_refl, Nat.add_zero, Nat.zero_add, Nat.one_ne_zero, Nat.zero_ne_one, Nat.lt_irrefl, List.length_set, fa_L_law_18, hi, hd, hQ, mr_L_law, h1, h0, tg_L_law, swt, lks, Int.reduceAdd]
  try simp only [m1f]
  try simp (disch := omega) only [nmod, nI_leI, nI_ltI, nI_eq, nI_clamp, vin_nI, nI_1, fa_lit, nI_add, nI_rm3, nI_rm2, pk_rem, pk_mul, pk_sub, pk_div, nI_eM, nI_Me, nI_pM, nI_pMz, nI_pM0, M1_lt, M1_le, nI_ltM, nI_leM, i8_nI, true_and, and_true, false_implies, true_implies, not_false_eq_true, not_true_eq_false, ne_eq, implies_true, Nat.not_lt_zero, Nat.zero_le, ite_min, max0, Nat.reduceLT, Nat.reduceLeDiff, Nat.reduceEqDiff, Nat.reduceAdd, Nat.reduceMul]
  try simp only [m1u]
  refine ⟨by omega, _, pr_line (i := i) hG (by omega) (by omega) hX , ?_⟩
  rintro v n1 z1 f1 ⟨S', L', tb', tl', fk', fp', kp', ans, rfl, hX1, hF, h9⟩
  have h1' : f1 sp = cI len scr := (hF.2 sp hsp).trans h1
  have hm1 : f1 = mM f1 I W A s := mM.eq (f0 := f) (fun x a b => by rw [hF.1 x a b, ← hm])
  have h31 : f1 31 = cO 9 (mO I s.1) := by rw [hm1]; exact mM_31
  refine wp_sound (by rw [hi]; exact ok_L_law) (hd := [700, 704, 916]) 400 _ _ _ _ _ _ ?_
  simp only [wp, stp, List.mem_cons, List.not_mem_nil, Nat.reduceEqDiff, or_false, or_self, false_or, or_true, true_or, Nat.reduceAdd, ↓reduceIte, List.getElem?_cons_zero, List.getElem?_cons_succ, nthV, List.set_cons_zero, List.set_cons_succ, noL, popA, catS, Value.category, List.length_cons, List.length_nil, Nat.reduceLT, Nat.reduceLeDiff, true_and, and_true, one0, zer1, imp_t, imp_f, ofN_nI, sdead, f20, f21, not_true_eq_false, upC_ap, upC_upC, retC, fitC, isRefT, Option.toList_some, Option.toList_none, List.cons_append, List.nil_append, Nat.lt_add_one, Nat.zero_lt_succ, Nat.le_refl, Nat.add_zero, Nat.zero_add, Nat.one_ne_zero, Nat.zero_ne_one, Nat.lt_irrefl, List.length_set, fa_L_law_18, hi, hd, hQ, mr_L_law, h1', h31, tg_L_law, swt, lks, Int.reduceAdd]
  try simp only [m1f]
  try simp (disch := omega) only [nmod, nI_leI, nI_ltI, nI_eq, nI_clamp, vin_nI, nI_1, fa_lit, nI_add, nI_rm3, nI_rm2, pk_rem, pk_mul, pk_sub, pk_div, nI_eM, nI_Me, nI_pM, nI_pMz, nI_pM0, M1_lt, M1_le, nI_ltM, nI_leM, i8_nI, true_and, and_true, false_implies, true_implies, not_false_eq_true, not_true_eq_false, ne_eq, implies_true, Nat.not_lt_zero, Nat.zero_le, ite_min, max0, Nat.reduceLT, Nat.reduceLeDiff, Nat.reduceEqDiff, Nat.reduceAdd, Nat.reduceMul]
  try simp only [m1u]
  refine ⟨by omega, _, Tr.mem hm1 (h9 I W A s hR), ?_⟩
  rintro v n2 z2 f2 ⟨rfl, rfl, rfl, I', W', A', s', rfl, hR'⟩
  refine wp_sound (by rw [hi]; exact ok_L_law) (hd := [704, 916]) 400 _ _ _ _ _ _ ?_
  simp only [wp, stp, List.mem_cons, List.not_mem_nil, Nat.reduceEqDiff, or_false, or_self, false_or, or_true, true_or, Nat.reduceAdd, ↓reduceIte, List.getElem?_cons_zero, List.getElem?_cons_succ, nthV, List.set_cons_zero, List.set_cons_succ, noL, popA, catS, Value.category, List.length_cons, List.length_nil, Nat.reduceLT, Nat.reduceLeDiff, true_and, and_true, one0, zer1, imp_t, imp_f, ofN_nI, sdead, f20, f21, not_true_eq_false, upC_ap, upC_upC, retC, fitC, isRefT, Option.toList_some, Option.toList_none, List.cons_append, List.nil_append, Nat.lt_add_one, Nat.zero_lt_succ, Nat.le_refl, Nat.add_zero, Nat.zero_add, Nat.one_ne_zero, Nat.zero_ne_one, Nat.lt_irrefl, List.length_set, fa_L_law_18, hi, hd, hQ, mr_L_law, tg_L_law, swt, lks, Int.reduceAdd]
  try simp only [m1f]
  try simp (disch := omega) only [nmod, nI_leI, nI_ltI, nI_eq, nI_clamp, vin_nI, nI_1, fa_lit, nI_add, nI_rm3, nI_rm2, pk_rem, pk_mul, pk_sub, pk_div, nI_eM, nI_Me, nI_pM, nI_pMz, nI_pM0, M1_lt, M1_le, nI_ltM, nI_leM, i8_nI, true_and, and_true, false_implies, true_implies, not_false_eq_true, not_true_eq_false, ne_eq, implies_true, Nat.not_lt_zero, Nat.zero_le, ite_min, max0, Nat.reduceLT, Nat.reduceLeDiff, Nat.reduceEqDiff, Nat.reduceAdd, Nat.reduceMul]
  try simp only [m1u]
  exact nxt _ _ _ ⟨by rw [mM_o (by omega)]; exact h1', S', L', tb', tl', fk', fp', kp', I', W', A', s', mM.eq (f0 := f1) (fun _ _ _ => rfl), hX1.off (fun x hx => mM_o hx), hR'⟩
theorem t_br_19 (hG : Ok G) (hi : X.i = 212) (hd : X.d = d) (hd1 : 42 ≤ d) (hQ : ∀ n z f, X.Q (some (.int 1)) n z f) (hsp : 1000000 ≤ sp) (hlen : len ≤ 3072) (h6 : 6 * i + 6 ≤ len) (nxt : ∀ n z f, WX sp len scr (i + 1) f n z → V G X 916 [.ref sp, .ref 0, .ref 31, .int (nI (6 * i))] [] n z f) (hW : WX sp len scr i f n z) : V G X 709 [.ref sp, .ref 0, .ref 31, .int (nI (6 * i))] [] n z f := by
  obtain ⟨h1, S, L, tb, tl, fk, fp, kp, I, W, A, s, hm, hX, hR⟩ := hW
  obtain ⟨o8, h0⟩ : ∃ fs, f 0 = cO 8 fs := by
    obtain ⟨lp, N, Z, K, ro, to, ko, -, h⟩ := id hX
    exact ⟨_, h.2.2.2.2.1⟩
  refine wp_sound (by rw [hi]; exact ok_L_law) (hd := [723, 737, 916]) 400 _ _ _ _ _ _ ?_
  simp only [wp, stp, List.mem_cons, List.not_mem_nil, Nat.reduceEqDiff, or_false, or_self, false_or, or_true, true_or, Nat.reduceAdd, ↓reduceIte, List.getElem?_cons_zero, List.getElem?_cons_succ, nthV, List.set_cons_zero, List.set_cons_succ, noL, popA, catS, Value.category, List.length_cons, List.length_nil, Nat.reduceLT, Nat.reduceLeDiff, true_and, and_true, one0, zer1, imp_t, imp_f, ofN_nI, sdead, f20, f21, not_true_eq_false, upC_ap, upC_upC, retC, fitC, isRefT, Option.toList_some, Option.toList_none, List.cons_append, List.nil_append, Nat.lt_add_one, Nat.zero_lt_succ, Nat.le_refl, Nat.add_zero, Nat.zero_add, Nat.one_ne_zero, Nat.zero_ne_one, Nat.lt_irrefl, List.length_set, fa_L_law_19, hi, hd, hQ, mr_L_law, h1, h0, tg_L_law, swt, lks, Int.reduceAdd]
  try simp only [m1f]
  try simp (disch := omega) only [nmod, nI_leI, nI_ltI, nI_eq, nI_clamp, vin_nI, nI_1, fa_lit, nI_add, nI_rm3, nI_rm2, pk_rem, pk_mul, pk_sub, pk_div, nI_eM, nI_Me, nI_pM, nI_pMz, nI_pM0, M1_lt, M1_le, nI_ltM, nI_leM, i8_nI, true_and, and_true, false_implies, true_implies, not_false_eq_true, not_true_eq_false, ne_eq, implies_true, Nat.not_lt_zero, Nat.zero_le, ite_min, max0, Nat.reduceLT, Nat.reduceLeDiff, Nat.reduceEqDiff, Nat.reduceAdd, Nat.reduceMul]
  try simp only [m1u]
  refine ⟨by omega, by omega, by omega, _, pr_rid (i := i) hG (by omega) (by omega) hX (scr (6 * i + 1)) (scr (6 * i + 2)), ?_⟩
  rintro v n1 z1 f1 ⟨S', L', tb', tl', fk', fp', kp', ans, rfl, hX1, hF, h9⟩
  have h1' : f1 sp = cI len scr := (hF.2 sp hsp).trans h1
  have hm1 : f1 = mM f1 I W A s := mM.eq (f0 := f) (fun x a b => by rw [hF.1 x a b, ← hm])
  have h31 : f1 31 = cO 9 (mO I s.1) := by rw [hm1]; exact mM_31
  refine wp_sound (by rw [hi]; exact ok_L_law) (hd := [723, 737, 916]) 400 _ _ _ _ _ _ ?_
  simp only [wp, stp, List.mem_cons, List.not_mem_nil, Nat.reduceEqDiff, or_false, or_self, false_or, or_true, true_or, Nat.reduceAdd, ↓reduceIte, List.getElem?_cons_zero, List.getElem?_cons_succ, nthV, List.set_cons_zero, List.set_cons_succ, noL, popA, catS, Value.category, List.length_cons, List.length_nil, Nat.reduceLT, Nat.reduceLeDiff, true_and, and_true, one0, zer1, imp_t, imp_f, ofN_nI, sdead, f20, f21, not_true_eq_false, upC_ap, upC_upC, retC, fitC, isRefT, Option.toList_some, Option.toList_none, List.cons_append, List.nil_append, Nat.lt_add_one, Nat.zero_lt_succ, Nat.le_refl, Nat.add_zero, Nat.zero_add, Nat.one_ne_zero, Nat.zero_ne_one, Nat.lt_irrefl, List.length_set, fa_L_law_19, hi, hd, hQ, mr_L_law, h1', h31, tg_L_law, swt, lks, Int.reduceAdd]
  try simp only [m1f]
  try simp (disch := omega) only [nmod, nI_leI, nI_ltI, nI_eq, nI_clamp, vin_nI, nI_1, fa_lit, nI_add, nI_rm3, nI_rm2, pk_rem, pk_mul, pk_sub, pk_div, nI_eM, nI_Me, nI_pM, nI_pMz, nI_pM0, M1_lt, M1_le, nI_ltM, nI_leM, i8_nI, true_and, and_true, false_implies, true_implies, not_false_eq_true, not_true_eq_false, ne_eq, implies_true, Nat.not_lt_zero, Nat.zero_le, ite_min, max0, Nat.reduceLT, Nat.reduceLeDiff, Nat.reduceEqDiff, Nat.reduceAdd, Nat.reduceMul]
  try simp only [m1u]
  refine ⟨by omega, by omega, by omega, _, Tr.mem hm1 (h9 I W A s hR), ?_⟩
  rintro v n2 z2 f2 ⟨rfl, rfl, rfl, I', W', A', s', rfl, hR'⟩
  refine wp_sound (by rw [hi]; exact ok_L_law) (hd := [737, 916]) 400 _ _ _ _ _ _ ?_
  simp only [wp, stp, List.mem_cons, List.not_mem_nil, Nat.reduceEqDiff, or_false, or_self, false_or, or_true, true_or, Nat.reduceAdd, ↓reduceIte, List.getElem?_cons_zero, List.getElem?_cons_succ, nthV, List.set_cons_zero, List.set_cons_succ, noL, popA, catS, Value.category, List.length_cons, List.length_nil, Nat.reduceLT, Nat.reduceLeDiff, true_and, and_true, one0, zer1, imp_t, imp_f, ofN_nI, sdead, f20, f21, not_true_eq_false, upC_ap, upC_upC, retC, fitC, isRefT, Option.toList_some, Option.toList_none, List.cons_append, List.nil_append, Nat.lt_add_one, Nat.zero_lt_succ, Nat.le_refl, Nat.add_zero, Nat.zero_add, Nat.one_ne_zero, Nat.zero_ne_one, Nat.lt_irrefl, List.length_set, fa_L_law_19, hi, hd, hQ, mr_L_law, tg_L_law, swt, lks, Int.reduceAdd]
  try simp only [m1f]
  try simp (disch := omega) only [nmod, nI_leI, nI_ltI, nI_eq, nI_clamp, vin_nI, nI_1, fa_lit, nI_add, nI_rm3, nI_rm2, pk_rem, pk_mul, pk_sub, pk_div, nI_eM, nI_Me, nI_pM, nI_pMz, nI_pM0, M1_lt, M1_le, nI_ltM, nI_leM, i8_nI, true_and, and_true, false_implies, true_implies, not_false_eq_true, not_true_eq_false, ne_eq, implies_true, Nat.not_lt_zero, Nat.zero_le, ite_min, max0, Nat.reduceLT, Nat.reduceLeDiff, Nat.reduceEqDiff, Nat.reduceAdd, Nat.reduceMul]
  try simp only [m1u]
  exact nxt _ _ _ ⟨by rw [mM_o (by omega)]; exact h1', S', L', tb', tl', fk', fp', kp', I', W', A', s', mM.eq (f0 := f1) (fun _ _ _ => rfl), hX1.off (fun x hx => mM_o hx), hR'⟩
theorem t_br_20 (hG : Ok G) (hi : X.i = 212) (hd : X.d = d) (hd1 : 42 ≤ d) (hQ : ∀ n z f, X.Q (some (.int 1)) n z f) (hsp : 1000000 ≤ sp) (hlen : len ≤ 3072) (h6 : 6 * i + 6 ≤ len) (nxt : ∀ n z f, WX sp len scr (i + 1) f n z → V G X 916 [.ref sp, .ref 0, .ref 31, .int (nI (6 * i))] [] n z f) (hW : WX sp len scr i f n z) : V G X 742 [.ref sp, .ref 0, .ref 31, .int (nI (6 * i))] [] n z f := by
  obtain ⟨h1, S, L, tb, tl, fk, fp, kp, I, W, A, s, hm, hX, hR⟩ := hW
  obtain ⟨o8, h0⟩ : ∃ fs, f 0 = cO 8 fs := by
    obtain ⟨lp, N, Z, K, ro, to, ko, -, h⟩ := id hX
    exact ⟨_, h.2.2.2.2.1⟩
  refine wp_sound (by rw [hi]; exact ok_L_law) (hd := [756, 770, 916]) 400 _ _ _ _ _ _ ?_
  simp only [wp, stp, List.mem_cons, List.not_mem_nil, Nat.reduceEqDiff, or_false, or_self, false_or, or_true, true_or, Nat.reduceAdd, ↓reduceIte, List.getElem?_cons_zero, List.getElem?_cons_succ, nthV, List.set_cons_zero, List.set_cons_succ, noL, popA, catS, Value.category, List.length_cons, List.length_nil, Nat.reduceLT, Nat.reduceLeDiff, true_and, and_true, one0, zer1, imp_t, imp_f, ofN_nI, sdead, f20, f21, not_true_eq_false, upC_ap, upC_upC, retC, fitC, isRefT, Option.toList_some, Option.toList_none, List.cons_append, List.nil_append, Nat.lt_add_one, Nat.zero_lt_succ, Nat.le_refl, Nat.add_zero, Nat.zero_add, Nat.one_ne_zero, Nat.zero_ne_one, Nat.lt_irrefl, List.length_set, fa_L_law_20, hi, hd, hQ, mr_L_law, h1, h0, tg_L_law, swt, lks, Int.reduceAdd]
  try simp only [m1f]
  try simp (disch := omega) only [nmod, nI_leI, nI_ltI, nI_eq, nI_clamp, vin_nI, nI_1, fa_lit, nI_add, nI_rm3, nI_rm2, pk_rem, pk_mul, pk_sub, pk_div, nI_eM, nI_Me, nI_pM, nI_pMz, nI_pM0, M1_lt, M1_le, nI_ltM, nI_leM, i8_nI, true_and, and_true, false_implies, true_implies, not_false_eq_true, not_true_eq_false, ne_eq, implies_true, Nat.not_lt_zero, Nat.zero_le, ite_min, max0, Nat.reduceLT, Nat.reduceLeDiff, Nat.reduceEqDiff, Nat.reduceAdd, Nat.reduceMul]
  try simp only [m1u]
  refine ⟨by omega, by omega, by omega, _, pr_send (i := i) hG (by omega) (by omega) hX (scr (6 * i + 1)) (scr (6 * i + 2)), ?_⟩
  rintro v n1 z1 f1 ⟨S', L', tb', tl', fk', fp', kp', ans, rfl, hX1, hF, h9⟩
  have h1' : f1 sp = cI len scr := (hF.2 sp hsp).trans h1
  have hm1 : f1 = mM f1 I W A s := mM.eq (f0 := f) (fun x a b => by rw [hF.1 x a b, ← hm])
  have h31 : f1 31 = cO 9 (mO I s.1) := by rw [hm1]; exact mM_31
  refine wp_sound (by rw [hi]; exact ok_L_law) (hd := [756, 770, 916]) 400 _ _ _ _ _ _ ?_
  simp only [wp, stp, List.mem_cons, List.not_mem_nil, Nat.reduceEqDiff, or_false, or_self, false_or, or_true, true_or, Nat.reduceAdd, ↓reduceIte, List.getElem?_cons_zero, List.getElem?_cons_succ, nthV, List.set_cons_zero, List.set_cons_succ, noL, popA, catS, Value.category, List.length_cons, List.length_nil, Nat.reduceLT, Nat.reduceLeDiff, true_and, and_true, one0, zer1, imp_t, imp_f, ofN_nI, sdead, f20, f21, not_true_eq_false, upC_ap, upC_upC, retC, fitC, isRefT, Option.toList_some, Option.toList_none, List.cons_append, List.nil_append, Nat.lt_add_one, Nat.zero_lt_succ, Nat.le_refl, Nat.add_zero, Nat.zero_add, Nat.one_ne_zero, Nat.zero_ne_one, Nat.lt_irrefl, List.length_set, fa_L_law_20, hi, hd, hQ, mr_L_law, h1', h31, tg_L_law, swt, lks, Int.reduceAdd]
  try simp only [m1f]
  try simp (disch := omega) only [nmod, nI_leI, nI_ltI, nI_eq, nI_clamp, vin_nI, nI_1, fa_lit, nI_add, nI_rm3, nI_rm2, pk_rem, pk_mul, pk_sub, pk_div, nI_eM, nI_Me, nI_pM, nI_pMz, nI_pM0, M1_lt, M1_le, nI_ltM, nI_leM, i8_nI, true_and, and_true, false_implies, true_implies, not_false_eq_true, not_true_eq_false, ne_eq, implies_true, Nat.not_lt_zero, Nat.zero_le, ite_min, max0, Nat.reduceLT, Nat.reduceLeDiff, Nat.reduceEqDiff, Nat.reduceAdd, Nat.reduceMul]
  try simp only [m1u]
  refine ⟨by omega, by omega, by omega, _, Tr.mem hm1 (h9 I W A s hR), ?_⟩
  rintro v n2 z2 f2 ⟨rfl, rfl, rfl, I', W', A', s', rfl, hR'⟩
  refine wp_sound (by rw [hi]; exact ok_L_law) (hd := [770, 916]) 400 _ _ _ _ _ _ ?_
  simp only [wp, stp, List.mem_cons, List.not_mem_nil, Nat.reduceEqDiff, or_false, or_self, false_or, or_true, true_or, Nat.reduceAdd, ↓reduceIte, List.getElem?_cons_zero, List.getElem?_cons_succ, nthV, List.set_cons_zero, List.set_cons_succ, noL, popA, catS, Value.category, List.length_cons, List.length_nil, Nat.reduceLT, Nat.reduceLeDiff, true_and, and_true, one0, zer1, imp_t, imp_f, ofN_nI, sdead, f20, f21, not_true_eq_false, upC_ap, upC_upC, retC, fitC, isRefT, Option.toList_some, Option.toList_none, List.cons_append, List.nil_append, Nat.lt_add_one, Nat.zero_lt_succ, Nat.le_refl, Nat.add_zero, Nat.zero_add, Nat.one_ne_zero, Nat.zero_ne_one, Nat.lt_irrefl, List.length_set, fa_L_law_20, hi, hd, hQ, mr_L_law, tg_L_law, swt, lks, Int.reduceAdd]
  try simp only [m1f]
  try simp (disch := omega) only [nmod, nI_leI, nI_ltI, nI_eq, nI_clamp, vin_nI, nI_1, fa_lit, nI_add, nI_rm3, nI_rm2, pk_rem, pk_mul, pk_sub, pk_div, nI_eM, nI_Me, nI_pM, nI_pMz, nI_pM0, M1_lt, M1_le, nI_ltM, nI_leM, i8_nI, true_and, and_true, false_implies, true_implies, not_false_eq_true, not_true_eq_false, ne_eq, implies_true, Nat.not_lt_zero, Nat.zero_le, ite_min, max0, Nat.reduceLT, Nat.reduceLeDiff, Nat.reduceEqDiff, Nat.reduceAdd, Nat.reduceMul]
  try simp only [m1u]
  exact nxt _ _ _ ⟨by rw [mM_o (by omega)]; exact h1', S', L', tb', tl', fk', fp', kp', I', W', A', s', mM.eq (f0 := f1) (fun _ _ _ => rfl), hX1.off (fun x hx => mM_o hx), hR'⟩
theorem t_br_21 (hG : Ok G) (hi : X.i = 212) (hd : X.d = d) (hd1 : 42 ≤ d) (hQ : ∀ n z f, X.Q (some (.int 1)) n z f) (hsp : 1000000 ≤ sp) (hlen : len ≤ 3072) (h6 : 6 * i + 6 ≤ len) (nxt : ∀ n z f, WX sp len scr (i + 1) f n z → V G X 916 [.ref sp, .ref 0, .ref 31, .int (nI (6 * i))] [] n z f) (hW : WX sp len scr i f n z) : V G X 775 [.ref sp, .ref 0, .ref 31, .int (nI (6 * i))] [] n z f := by
  obtain ⟨h1, S, L, tb, tl, fk, fp, kp, I, W, A, s, hm, hX, hR⟩ := hW
  obtain ⟨o8, h0⟩ : ∃ fs, f 0 = cO 8 fs := by
    obtain ⟨lp, N, Z, K, ro, to, ko, -, h⟩ := id hX
    exact ⟨_, h.2.2.2.2.1⟩
  refine wp_sound (by rw [hi]; exact ok_L_law) (hd := [784, 793, 916]) 400 _ _ _ _ _ _ ?_
  simp only [wp, stp, List.mem_cons, List.not_mem_nil, Nat.reduceEqDiff, or_false, or_self, false_or, or_true, true_or, Nat.reduceAdd, ↓reduceIte, List.getElem?_cons_zero, List.getElem?_cons_succ, nthV, List.set_cons_zero, List.set_cons_succ, noL, popA, catS, Value.category, List.length_cons, List.length_nil, Nat.reduceLT, Nat.reduceLeDiff, true_and, and_true, one0, zer1, imp_t, imp_f, ofN_nI, sdead, f20, f21, not_true_eq_false, upC_ap, upC_upC, retC, fitC, isRefT, Option.toList_some, Option.toList_none, List.cons_append, List.nil_append, Nat.lt_add_one, Nat.zero_lt_succ, Nat.le_refl, Nat.add_zero, Nat.zero_add, Nat.one_ne_zero, Nat.zero_ne_one, Nat.lt_irrefl, List.length_set, fa_L_law_21, hi, hd, hQ, mr_L_law, h1, h0, tg_L_law, swt, lks, Int.reduceAdd]
  try simp only [m1f]
  try simp (disch := omega) only [nmod, nI_leI, nI_ltI, nI_eq, nI_clamp, vin_nI, nI_1, fa_lit, nI_add, nI_rm3, nI_rm2, pk_rem, pk_mul, pk_sub, pk_div, nI_eM, nI_Me, nI_pM, nI_pMz, nI_pM0, M1_lt, M1_le, nI_ltM, nI_leM, i8_nI, true_and, and_true, false_implies, true_implies, not_false_eq_true, not_true_eq_false, ne_eq, implies_true, Nat.not_lt_zero, Nat.zero_le, ite_min, max0, Nat.reduceLT, Nat.reduceLeDiff, Nat.reduceEqDiff, Nat.reduceAdd, Nat.reduceMul]
  try simp only [m1u]
  refine ⟨by omega, by omega, _, pr_broken (i := i) hG (by omega) (by omega) hX (scr (6 * i + 1)), ?_⟩
  rintro v n1 z1 f1 ⟨S', L', tb', tl', fk', fp', kp', ans, rfl, hX1, hF, h9⟩
  have h1' : f1 sp = cI len scr := (hF.2 sp hsp).trans h1
  have hm1 : f1 = mM f1 I W A s := mM.eq (f0 := f) (fun x a b => by rw [hF.1 x a b, ← hm])
  have h31 : f1 31 = cO 9 (mO I s.1) := by rw [hm1]; exact mM_31
  refine wp_sound (by rw [hi]; exact ok_L_law) (hd := [784, 793, 916]) 400 _ _ _ _ _ _ ?_
  simp only [wp, stp, List.mem_cons, List.not_mem_nil, Nat.reduceEqDiff, or_false, or_self, false_or, or_true, true_or, Nat.reduceAdd, ↓reduceIte, List.getElem?_cons_zero, List.getElem?_cons_succ, nthV, List.set_cons_zero, List.set_cons_succ, noL, popA, catS, Value.category, List.length_cons, List.length_nil, Nat.reduceLT, Nat.reduceLeDiff, true_and, and_true, one0, zer1, imp_t, imp_f, ofN_nI, sdead, f20, f21, not_true_eq_false, upC_ap, upC_upC, retC, fitC, isRefT, Option.toList_some, Option.toList_none, List.cons_append, List.nil_append, Nat.lt_add_one, Nat.zero_lt_succ, Nat.le_refl, Nat.add_zero, Nat.zero_add, Nat.one_ne_zero, Nat.zero_ne_one, Nat.lt_irrefl, List.length_set, fa_L_law_21, hi, hd, hQ, mr_L_law, h1', h31, tg_L_law, swt, lks, Int.reduceAdd]
  try simp only [m1f]
  try simp (disch := omega) only [nmod, nI_leI, nI_ltI, nI_eq, nI_clamp, vin_nI, nI_1, fa_lit, nI_add, nI_rm3, nI_rm2, pk_rem, pk_mul, pk_sub, pk_div, nI_eM, nI_Me, nI_pM, nI_pMz, nI_pM0, M1_lt, M1_le, nI_ltM, nI_leM, i8_nI, true_and, and_true, false_implies, true_implies, not_false_eq_true, not_true_eq_false, ne_eq, implies_true, Nat.not_lt_zero, Nat.zero_le, ite_min, max0, Nat.reduceLT, Nat.reduceLeDiff, Nat.reduceEqDiff, Nat.reduceAdd, Nat.reduceMul]
  try simp only [m1u]
  refine ⟨by omega, by omega, _, Tr.mem hm1 (h9 I W A s hR), ?_⟩
  rintro v n2 z2 f2 ⟨rfl, rfl, rfl, I', W', A', s', rfl, hR'⟩
  refine wp_sound (by rw [hi]; exact ok_L_law) (hd := [793, 916]) 400 _ _ _ _ _ _ ?_
  simp only [wp, stp, List.mem_cons, List.not_mem_nil, Nat.reduceEqDiff, or_false, or_self, false_or, or_true, true_or, Nat.reduceAdd, ↓reduceIte, List.getElem?_cons_zero, List.getElem?_cons_succ, nthV, List.set_cons_zero, List.set_cons_succ, noL, popA, catS, Value.category, List.length_cons, List.length_nil, Nat.reduceLT, Nat.reduceLeDiff, true_and, and_true, one0, zer1, imp_t, imp_f, ofN_nI, sdead, f20, f21, not_true_eq_false, upC_ap, upC_upC, retC, fitC, isRefT, Option.toList_some, Option.toList_none, List.cons_append, List.nil_append, Nat.lt_add_one, Nat.zero_lt_succ, Nat.le_refl, Nat.add_zero, Nat.zero_add, Nat.one_ne_zero, Nat.zero_ne_one, Nat.lt_irrefl, List.length_set, fa_L_law_21, hi, hd, hQ, mr_L_law, tg_L_law, swt, lks, Int.reduceAdd]
  try simp only [m1f]
  try simp (disch := omega) only [nmod, nI_leI, nI_ltI, nI_eq, nI_clamp, vin_nI, nI_1, fa_lit, nI_add, nI_rm3, nI_rm2, pk_rem, pk_mul, pk_sub, pk_div, nI_eM, nI_Me, nI_pM, nI_pMz, nI_pM0, M1_lt, M1_le, nI_ltM, nI_leM, i8_nI, true_and, and_true, false_implies, true_implies, not_false_eq_true, not_true_eq_false, ne_eq, implies_true, Nat.not_lt_zero, Nat.zero_le, ite_min, max0, Nat.reduceLT, Nat.reduceLeDiff, Nat.reduceEqDiff, Nat.reduceAdd, Nat.reduceMul]
  try simp only [m1u]
  exact nxt _ _ _ ⟨by rw [mM_o (by omega)]; exact h1', S', L', tb', tl', fk', fp', kp', I', W', A', s', mM.eq (f0 := f1) (fun _ _ _ => rfl), hX1.off (fun x hx => mM_o hx), hR'⟩
theorem t_br_22 (hG : Ok G) (hi : X.i = 212) (hd : X.d = d) (hd1 : 42 ≤ d) (hQ : ∀ n z f, X.Q (some (.int 1)) n z f) (hsp : 1000000 ≤ sp) (hlen : len ≤ 3072) (h6 : 6 * i + 6 ≤ len) (nxt : ∀ n z f, WX sp len scr (i + 1) f n z → V G X 916 [.ref sp, .ref 0, .ref 31, .int (nI (6 * i))] [] n z f) (hW : WX sp len scr i f n z) : V G X 798 [.ref sp, .ref 0, .ref 31, .int (nI (6 * i))] [] n z f := by
  obtain ⟨h1, S, L, tb, tl, fk, fp, kp, I, W, A, s, hm, hX, hR⟩ := hW
  obtain ⟨o8, h0⟩ : ∃ fs, f 0 = cO 8 fs := by
    obtain ⟨lp, N, Z, K, ro, to, ko, -, h⟩ := id hX
    exact ⟨_, h.2.2.2.2.1⟩
  refine wp_sound (by rw [hi]; exact ok_L_law) (hd := [812, 826, 916]) 400 _ _ _ _ _ _ ?_
  simp only [wp, stp, List.mem_cons, List.not_mem_nil, Nat.reduceEqDiff, or_false, or_self, false_or, or_true, true_or, Nat.reduceAdd, ↓reduceIte, List.getElem?_cons_zero, List.getElem?_cons_succ, nthV, List.set_cons_zero, List.set_cons_succ, noL, popA, catS, Value.category, List.length_cons, List.length_nil, Nat.reduceLT, Nat.reduceLeDiff, true_and, and_true, one0, zer1, imp_t, imp_f, ofN_nI, sdead, f20, f21, not_true_eq_false, upC_ap, upC_upC, retC, fitC, isRefT, Option.toList_some, Option.toList_none, List.cons_append, List.nil_append, Nat.lt_add_one, Nat.zero_lt_succ, Nat.le_refl, Nat.add_zero, Nat.zero_add, Nat.one_ne_zero, Nat.zero_ne_one, Nat.lt_irrefl, List.length_set, fa_L_law_22, hi, hd, hQ, mr_L_law, h1, h0, tg_L_law, swt, lks, Int.reduceAdd]
  try simp only [m1f]
  try simp (disch := omega) only [nmod, nI_leI, nI_ltI, nI_eq, nI_clamp, vin_nI, nI_1, fa_lit, nI_add, nI_rm3, nI_rm2, pk_rem, pk_mul, pk_sub, pk_div, nI_eM, nI_Me, nI_pM, nI_pMz, nI_pM0, M1_lt, M1_le, nI_ltM, nI_leM, i8_nI, true_and, and_true, false_implies, true_implies, not_false_eq_true, not_true_eq_false, ne_eq, implies_true, Nat.not_lt_zero, Nat.zero_le, ite_min, max0, Nat.reduceLT, Nat.reduceLeDiff, Nat.reduceEqDiff, Nat.reduceAdd, Nat.reduceMul]
  try simp only [m1u]
  refine ⟨by omega, by omega, by omega, _, pr_told (i := i) hG (by omega) (by omega) hX (scr (6 * i + 1)) (scr (6 * i + 2)), ?_⟩
  rintro v n1 z1 f1 ⟨S', L', tb', tl', fk', fp', kp', ans, rfl, hX1, hF, h9⟩
  have h1' : f1 sp = cI len scr := (hF.2 sp hsp).trans h1
  have hm1 : f1 = mM f1 I W A s := mM.eq (f0 := f) (fun x a b => by rw [hF.1 x a b, ← hm])
  have h31 : f1 31 = cO 9 (mO I s.1) := by rw [hm1]; exact mM_31
  refine wp_sound (by rw [hi]; exact ok_L_law) (hd := [812, 826, 916]) 400 _ _ _ _ _ _ ?_
  simp only [wp, stp, List.mem_cons, List.not_mem_nil, Nat.reduceEqDiff, or_false, or_self, false_or, or_true, true_or, Nat.reduceAdd, ↓reduceIte, List.getElem?_cons_zero, List.getElem?_cons_succ, nthV, List.set_cons_zero, List.set_cons_succ, noL, popA, catS, Value.category, List.length_cons, List.length_nil, Nat.reduceLT, Nat.reduceLeDiff, true_and, and_true, one0, zer1, imp_t, imp_f, ofN_nI, sdead, f20, f21, not_true_eq_false, upC_ap, upC_upC, retC, fitC, isRefT, Option.toList_some, Option.toList_none, List.cons_append, List.nil_append, Nat.lt_add_one, Nat.zero_lt_succ, Nat.le_refl, Nat.add_zero, Nat.zero_add, Nat.one_ne_zero, Nat.zero_ne_one, Nat.lt_irrefl, List.length_set, fa_L_law_22, hi, hd, hQ, mr_L_law, h1', h31, tg_L_law, swt, lks, Int.reduceAdd]
  try simp only [m1f]
  try simp (disch := omega) only [nmod, nI_leI, nI_ltI, nI_eq, nI_clamp, vin_nI, nI_1, fa_lit, nI_add, nI_rm3, nI_rm2, pk_rem, pk_mul, pk_sub, pk_div, nI_eM, nI_Me, nI_pM, nI_pMz, nI_pM0, M1_lt, M1_le, nI_ltM, nI_leM, i8_nI, true_and, and_true, false_implies, true_implies, not_false_eq_true, not_true_eq_false, ne_eq, implies_true, Nat.not_lt_zero, Nat.zero_le, ite_min, max0, Nat.reduceLT, Nat.reduceLeDiff, Nat.reduceEqDiff, Nat.reduceAdd, Nat.reduceMul]
  try simp only [m1u]
  refine ⟨by omega, by omega, by omega, _, Tr.mem hm1 (h9 I W A s hR), ?_⟩
  rintro v n2 z2 f2 ⟨rfl, rfl, rfl, I', W', A', s', rfl, hR'⟩
  refine wp_sound (by rw [hi]; exact ok_L_law) (hd := [826, 916]) 400 _ _ _ _ _ _ ?_
  simp only [wp, stp, List.mem_cons, List.not_mem_nil, Nat.reduceEqDiff, or_false, or_self, false_or, or_true, true_or, Nat.reduceAdd, ↓reduceIte, List.getElem?_cons_zero, List.getElem?_cons_succ, nthV, List.set_cons_zero, List.set_cons_succ, noL, popA, catS, Value.category, List.length_cons, List.length_nil, Nat.reduceLT, Nat.reduceLeDiff, true_and, and_true, one0, zer1, imp_t, imp_f, ofN_nI, sdead, f20, f21, not_true_eq_false, upC_ap, upC_upC, retC, fitC, isRefT, Option.toList_some, Option.toList_none, List.cons_append, List.nil_append, Nat.lt_add_one, Nat.zero_lt_succ, Nat.le_refl, Nat.add_zero, Nat.zero_add, Nat.one_ne_zero, Nat.zero_ne_one, Nat.lt_irrefl, List.length_set, fa_L_law_22, hi, hd, hQ, mr_L_law, tg_L_law, swt, lks, Int.reduceAdd]
  try simp only [m1f]
  try simp (disch := omega) only [nmod, nI_leI, nI_ltI, nI_eq, nI_clamp, vin_nI, nI_1, fa_lit, nI_add, nI_rm3, nI_rm2, pk_rem, pk_mul, pk_sub, pk_div, nI_eM, nI_Me, nI_pM, nI_pMz, nI_pM0, M1_lt, M1_le, nI_ltM, nI_leM, i8_nI, true_and, and_true, false_implies, true_implies, not_false_eq_true, not_true_eq_false, ne_eq, implies_true, Nat.not_lt_zero, Nat.zero_le, ite_min, max0, Nat.reduceLT, Nat.reduceLeDiff, Nat.reduceEqDiff, Nat.reduceAdd, Nat.reduceMul]
  try simp only [m1u]
  exact nxt _ _ _ ⟨by rw [mM_o (by omega)]; exact h1', S', L', tb', tl', fk', fp', kp', I', W', A', s', mM.eq (f0 := f1) (fun _ _ _ => rfl), hX1.off (fun x hx => mM_o hx), hR'⟩
theorem t_br_23 (hG : Ok G) (hi : X.i = 212) (hd : X.d = d) (hd1 : 42 ≤ d) (hQ : ∀ n z f, X.Q (some (.int 1)) n z f) (hsp : 1000000 ≤ sp) (hlen : len ≤ 3072) (h6 : 6 * i + 6 ≤ len) (nxt : ∀ n z f, WX sp len scr (i + 1) f n z → V G X 916 [.ref sp, .ref 0, .ref 31, .int (nI (6 * i))] [] n z f) (hW : WX sp len scr i f n z) : V G X 831 [.ref sp, .ref 0, .ref 31, .int (nI (6 * i))] [] n z f := by
  obtain ⟨h1, S, L, tb, tl, fk, fp, kp, I, W, A, s, hm, hX, hR⟩ := hW
  obtain ⟨o8, h0⟩ : ∃ fs, f 0 = cO 8 fs := by
    obtain ⟨lp, N, Z, K, ro, to, ko, -, h⟩ := id hX
    exact ⟨_, h.2.2.2.2.1⟩
  refine wp_sound (by rw [hi]; exact ok_L_law) (hd := [840, 849, 916]) 400 _ _ _ _ _ _ ?_
  simp only [wp, stp, List.mem_cons, List.not_mem_nil, Nat.reduceEqDiff, or_false, or_self, false_or, or_true, true_or, Nat.reduceAdd, ↓reduceIte, List.getElem?_cons_zero, List.getElem?_cons_succ, nthV, List.set_cons_zero, List.set_cons_succ, noL, popA, catS, Value.category, List.length_cons, List.length_nil, Nat.reduceLT, Nat.reduceLeDiff, true_and, and_true, one0, zer1, imp_t, imp_f, ofN_nI, sdead, f20, f21, not_true_eq_false, upC_ap, upC_upC, retC, fitC, isRefT, Option.toList_some, Option.toList_none, List.cons_append, List.nil_append, Nat.lt_add_one, Nat.zero_lt_succ, Nat.le_refl, Nat.add_zero, Nat.zero_add, Nat.one_ne_zero, Nat.zero_ne_one, Nat.lt_irrefl, List.length_set, fa_L_law_23, hi, hd, hQ, mr_L_law, h1, h0, tg_L_law, swt, lks, Int.reduceAdd]
  try simp only [m1f]
  try simp (disch := omega) only [nmod, nI_leI, nI_ltI, nI_eq, nI_clamp, vin_nI, nI_1, fa_lit, nI_add, nI_rm3, nI_rm2, pk_rem, pk_mul, pk_sub, pk_div, nI_eM, nI_Me, nI_pM, nI_pMz, nI_pM0, M1_lt, M1_le, nI_ltM, nI_leM, i8_nI, true_and, and_true, false_implies, true_implies, not_false_eq_true, not_true_eq_false, ne_eq, implies_true, Nat.not_lt_zero, Nat.zero_le, ite_min, max0, Nat.reduceLT, Nat.reduceLeDiff, Nat.reduceEqDiff, Nat.reduceAdd, Nat.reduceMul]
  try simp only [m1u]
  refine ⟨by omega, by omega, _, pr_night (i := i) hG (by omega) (by omega) hX (scr (6 * i + 1)), ?_⟩
  rintro v n1 z1 f1 ⟨S', L', tb', tl', fk', fp', kp', ans, rfl, hX1, hF, h9⟩
  have h1' : f1 sp = cI len scr := (hF.2 sp hsp).trans h1
  have hm1 : f1 = mM f1 I W A s := mM.eq (f0 := f) (fun x a b => by rw [hF.1 x a b, ← hm])
  have h31 : f1 31 = cO 9 (mO I s.1) := by rw [hm1]; exact mM_31
  refine wp_sound (by rw [hi]; exact ok_L_law) (hd := [840, 849, 916]) 400 _ _ _ _ _ _ ?_
  simp only [wp, stp, List.mem_cons, List.not_mem_nil, Nat.reduceEqDiff, or_false, or_self, false_or, or_true, true_or, Nat.reduceAdd, ↓reduceIte, List.getElem?_cons_zero, List.getElem?_cons_succ, nthV, List.set_cons_zero, List.set_cons_succ, noL, popA, catS, Value.category, List.length_cons, List.length_nil, Nat.reduceLT, Nat.reduceLeDiff, true_and, and_true, one0, zer1, imp_t, imp_f, ofN_nI, sdead, f20, f21, not_true_eq_false, upC_ap, upC_upC, retC, fitC, isRefT, Option.toList_some, Option.toList_none, List.cons_append, List.nil_append, Nat.lt_add_one, Nat.zero_lt_succ, Nat.le_refl, Nat.add_zero, Nat.zero_add, Nat.one_ne_zero, Nat.zero_ne_one, Nat.lt_irrefl, List.length_set, fa_L_law_23, hi, hd, hQ, mr_L_law, h1', h31, tg_L_law, swt, lks, Int.reduceAdd]
  try simp only [m1f]
  try simp (disch := omega) only [nmod, nI_leI, nI_ltI, nI_eq, nI_clamp, vin_nI, nI_1, fa_lit, nI_add, nI_rm3, nI_rm2, pk_rem, pk_mul, pk_sub, pk_div, nI_eM, nI_Me, nI_pM, nI_pMz, nI_pM0, M1_lt, M1_le, nI_ltM, nI_leM, i8_nI, true_and, and_true, false_implies, true_implies, not_false_eq_true, not_true_eq_false, ne_eq, implies_true, Nat.not_lt_zero, Nat.zero_le, ite_min, max0, Nat.reduceLT, Nat.reduceLeDiff, Nat.reduceEqDiff, Nat.reduceAdd, Nat.reduceMul]
  try simp only [m1u]
  refine ⟨by omega, by omega, _, Tr.mem hm1 (h9 I W A s hR), ?_⟩
  rintro v n2 z2 f2 ⟨rfl, rfl, rfl, I', W', A', s', rfl, hR'⟩
  refine wp_sound (by rw [hi]; exact ok_L_law) (hd := [849, 916]) 400 _ _ _ _ _ _ ?_
  simp only [wp, stp, List.mem_cons, List.not_mem_nil, Nat.reduceEqDiff, or_false, or_self, false_or, or_true, true_or, Nat.reduceAdd, ↓reduceIte, List.getElem?_cons_zero, List.getElem?_cons_succ, nthV, List.set_cons_zero, List.set_cons_succ, noL, popA, catS, Value.category, List.length_cons, List.length_nil, Nat.reduceLT, Nat.reduceLeDiff, true_and, and_true, one0, zer1, imp_t, imp_f, ofN_nI, sdead, f20, f21, not_true_eq_false, upC_ap, upC_upC, retC, fitC, isRefT, Option.toList_some, Option.toList_none, List.cons_append, List.nil_append, Nat.lt_add_one, Nat.zero_lt_succ, Nat.le_refl, Nat.add_zero, Nat.zero_add, Nat.one_ne_zero, Nat.zero_ne_one, Nat.lt_irrefl, List.length_set, fa_L_law_23, hi, hd, hQ, mr_L_law, tg_L_law, swt, lks, Int.reduceAdd]
  try simp only [m1f]
  try simp (disch := omega) only [nmod, nI_leI, nI_ltI, nI_eq, nI_clamp, vin_nI, nI_1, fa_lit, nI_add, nI_rm3, nI_rm2, pk_rem, pk_mul, pk_sub, pk_div, nI_eM, nI_Me, nI_pM, nI_pMz, nI_pM0, M1_lt, M1_le, nI_ltM, nI_leM, i8_nI, true_and, and_true, false_implies, true_implies, not_false_eq_true, not_true_eq_false, ne_eq, implies_true, Nat.not_lt_zero, Nat.zero_le, ite_min, max0, Nat.reduceLT, Nat.reduceLeDiff, Nat.reduceEqDiff, Nat.reduceAdd, Nat.reduceMul]
  try simp only [m1u]
  exact nxt _ _ _ ⟨by rw [mM_o (by omega)]; exact h1', S', L', tb', tl', fk', fp', kp', I', W', A', s', mM.eq (f0 := f1) (fun _ _ _ => rfl), hX1.off (fun x hx => mM_o hx), hR'⟩
theorem t_br_24 (hG : Ok G) (hi : X.i = 212) (hd : X.d = d) (hd1 : 42 ≤ d) (hQ : ∀ n z f, X.Q (some (.int 1)) n z f) (hsp : 1000000 ≤ sp) (hlen : len ≤ 3072) (h6 : 6 * i + 6 ≤ len) (nxt : ∀ n z f, WX sp len scr (i + 1) f n z → V G X 916 [.ref sp, .ref 0, .ref 31, .int (nI (6 * i))] [] n z f) (hW : WX sp len scr i f n z) : V G X 854 [.ref sp, .ref 0, .ref 31, .int (nI (6 * i))] [] n z f := by
  obtain ⟨h1, S, L, tb, tl, fk, fp, kp, I, W, A, s, hm, hX, hR⟩ := hW
  obtain ⟨o8, h0⟩ : ∃ fs, f 0 = cO 8 fs := by
    obtain ⟨lp, N, Z, K, ro, to, ko, -, h⟩ := id hX
    exact ⟨_, h.2.2.2.2.1⟩
  refine wp_sound (by rw [hi]; exact ok_L_law) (hd := [868, 871, 885, 888, 916]) 400 _ _ _ _ _ _ ?_
  simp only [wp, stp, List.mem_cons, List.not_mem_nil, Nat.reduceEqDiff, or_false, or_self, false_or, or_true, true_or, Nat.reduceAdd, ↓reduceIte, List.getElem?_cons_zero, List.getElem?_cons_succ, nthV, List.set_cons_zero, List.set_cons_succ, noL, popA, catS, Value.category, List.length_cons, List.length_nil, Nat.reduceLT, Nat.reduceLeDiff, true_and, and_true, one0, zer1, imp_t, imp_f, ofN_nI, sdead, f20, f21, not_true_eq_false, upC_ap, upC_upC, retC, fitC, isRefT, Option.toList_some, Option.toList_none, List.cons_append, List.nil_append, Nat.lt_add_one, Nat.zero_lt_succ, Nat.le_refl, Nat.add_zero, Nat.zero_add, Nat.one_ne_zero, Nat.zero_ne_one, Nat.lt_irrefl, List.length_set, fa_L_law_24, hi, hd, hQ, mr_L_law, h1, h0, tg_L_law, swt, lks, Int.reduceAdd]
  try simp only [m1f]
  try simp (disch := omega) only [nmod, nI_leI, nI_ltI, nI_eq, nI_clamp, vin_nI, nI_1, fa_lit, nI_add, nI_rm3, nI_rm2, pk_rem, pk_mul, pk_sub, pk_div, nI_eM, nI_Me, nI_pM, nI_pMz, nI_pM0, M1_lt, M1_le, nI_ltM, nI_leM, i8_nI, true_and, and_true, false_implies, true_implies, not_false_eq_true, not_true_eq_false, ne_eq, implies_true, Nat.not_lt_zero, Nat.zero_le, ite_min, max0, Nat.reduceLT, Nat.reduceLeDiff, Nat.reduceEqDiff, Nat.reduceAdd, Nat.reduceMul]
  try simp only [m1u]
  have go : ∀ b : Int32, b = 0 ∨ b = 1 → (if scr (6 * i + 1) = nI 0 then nI 0 else nI 1) = b → V G X 868 [.ref sp, .ref 0, .ref 31, .int (nI (6 * i))] [.int b, .ref 0] n z f := by
    intro b hb hbe
    refine wp_sound (by rw [hi]; exact ok_L_law) (hd := [871, 885, 888, 916]) 400 _ _ _ _ _ _ ?_
    simp only [wp, stp, List.mem_cons, List.not_mem_nil, Nat.reduceEqDiff, or_false, or_self, false_or, or_true, true_or, Nat.reduceAdd, ↓reduceIte, List.getElem?_cons_zero, List.getElem?_cons_succ, nthV, List.set_cons_zero, List.set_cons_succ, noL, popA, catS, Value.category, List.length_cons, List.length_nil, Nat.reduceLT, Nat.reduceLeDiff, true_and, and_true, one0, zer1, imp_t, imp_f, ofN_nI, sdead, f20, f21, not_true_eq_false, upC_ap, upC_upC, retC, fitC, isRefT, Option.toList_some, Option.toList_none, List.cons_append, List.nil_append, Nat.lt_add_one, Nat.zero_lt_succ, Nat.le_refl, Nat.add_zero, Nat.zero_add, Nat.one_ne_zero, Nat.zero_ne_one, Nat.lt_irrefl, List.length_set, fa_L_law_24, hi, hd, hQ, mr_L_law, h0, tg_L_law, swt, lks, Int.reduceAdd]
    try simp only [m1f]
    try simp (disch := omega) only [nmod, nI_leI, nI_ltI, nI_eq, nI_clamp, vin_nI, nI_1, fa_lit, nI_add, nI_rm3, nI_rm2, pk_rem, pk_mul, pk_sub, pk_div, nI_eM, nI_Me, nI_pM, nI_pMz, nI_pM0, M1_lt, M1_le, nI_ltM, nI_leM, i8_nI, true_and, and_true, false_implies, true_implies, not_false_eq_true, not_true_eq_false, ne_eq, implies_true, Nat.not_lt_zero, Nat.zero_le, ite_min, max0, Nat.reduceLT, Nat.reduceLeDiff, Nat.reduceEqDiff, Nat.reduceAdd, Nat.reduceMul]
    try simp only [m1u]
    refine ⟨by omega, _, pr_image (i := i) hG (by omega) (by omega) hX hb, ?_⟩
    rintro v n1 z1 f1 ⟨S', L', tb', tl', fk', fp', kp', ans, rfl, hX1, hF, h9⟩
    have h1' : f1 sp = cI len scr := (hF.2 sp hsp).trans h1
    have hm1 : f1 = mM f1 I W A s := mM.eq (f0 := f) (fun x a b => by rw [hF.1 x a b, ← hm])
    have h31 : f1 31 = cO 9 (mO I s.1) := by rw [hm1]; exact mM_31
    have k2 : V G X 885 [.ref sp, .ref 0, .ref 31, .int (nI (6 * i))] [.int b, .ref 31, .int ans] n1 z1 f1 := by
      refine wp_sound (by rw [hi]; exact ok_L_law) (hd := [888, 916]) 400 _ _ _ _ _ _ ?_
      simp only [wp, stp, List.mem_cons, List.not_mem_nil, Nat.reduceEqDiff, or_false, or_self, false_or, or_true, true_or, Nat.reduceAdd, ↓reduceIte, List.getElem?_cons_zero, List.getElem?_cons_succ, nthV, List.set_cons_zero, List.set_cons_succ, noL, popA, catS, Value.category, List.length_cons, List.length_nil, Nat.reduceLT, Nat.reduceLeDiff, true_and, and_true, one0, zer1, imp_t, imp_f, ofN_nI, sdead, f20, f21, not_true_eq_false, upC_ap, upC_upC, retC, fitC, isRefT, Option.toList_some, Option.toList_none, List.cons_append, List.nil_append, Nat.lt_add_one, Nat.zero_lt_succ, Nat.le_refl, Nat.add_zero, Nat.zero_add, Nat.one_ne_zero, Nat.zero_ne_one, Nat.lt_irrefl, List.length_set, fa_L_law_24, hi, hd, hQ, mr_L_law, h31, tg_L_law, swt, lks, Int.reduceAdd]
      try simp only [m1f]
      try simp (disch := omega) only [nmod, nI_leI, nI_ltI, nI_eq, nI_clamp, vin_nI, nI_1, fa_lit, nI_add, nI_rm3, nI_rm2, pk_rem, pk_mul, pk_sub, pk_div, nI_eM, nI_Me, nI_pM, nI_pMz, nI_pM0, M1_lt, M1_le, nI_ltM, nI_leM, i8_nI, true_and, and_true, false_implies, true_implies, not_false_eq_true, not_true_eq_false, ne_eq, implies_true, Nat.not_lt_zero, Nat.zero_le, ite_min, max0, Nat.reduceLT, Nat.reduceLeDiff, Nat.reduceEqDiff, Nat.reduceAdd, Nat.reduceMul]
      try simp only [m1u]
      refine ⟨by omega, _, Tr.mem hm1 (h9 I W A s hR), ?_⟩
      rintro v n2 z2 f2 ⟨rfl, rfl, rfl, I', W', A', s', rfl, hR'⟩
      refine wp_sound (by rw [hi]; exact ok_L_law) (hd := [888, 916]) 400 _ _ _ _ _ _ ?_
      simp only [wp, stp, List.mem_cons, List.not_mem_nil, Nat.reduceEqDiff, or_false, or_self, false_or, or_true, true_or, Nat.reduceAdd, ↓reduceIte, List.getElem?_cons_zero, List.getElem?_cons_succ, nthV, List.set_cons_zero, List.set_cons_succ, noL, popA, catS, Value.category, List.length_cons, List.length_nil, Nat.reduceLT, Nat.reduceLeDiff, true_and, and_true, one0, zer1, imp_t, imp_f, ofN_nI, sdead, f20, f21, not_true_eq_false, upC_ap, upC_upC, retC, fitC, isRefT, Option.toList_some, Option.toList_none, List.cons_append, List.nil_append, Nat.lt_add_one, Nat.zero_lt_succ, Nat.le_refl, Nat.add_zero, Nat.zero_add, Nat.one_ne_zero, Nat.zero_ne_one, Nat.lt_irrefl, List.length_set, fa_L_law_24, hi, hd, hQ, mr_L_law, tg_L_law, swt, lks, Int.reduceAdd]
      try simp only [m1f]
      try simp (disch := omega) only [nmod, nI_leI, nI_ltI, nI_eq, nI_clamp, vin_nI, nI_1, fa_lit, nI_add, nI_rm3, nI_rm2, pk_rem, pk_mul, pk_sub, pk_div, nI_eM, nI_Me, nI_pM, nI_pMz, nI_pM0, M1_lt, M1_le, nI_ltM, nI_leM, i8_nI, true_and, and_true, false_implies, true_implies, not_false_eq_true, not_true_eq_false, ne_eq, implies_true, Nat.not_lt_zero, Nat.zero_le, ite_min, max0, Nat.reduceLT, Nat.reduceLeDiff, Nat.reduceEqDiff, Nat.reduceAdd, Nat.reduceMul]
      try simp only [m1u]
      exact nxt _ _ _ ⟨by rw [mM_o (by omega)]; exact h1', S', L', tb', tl', fk', fp', kp', I', W', A', s', mM.eq (f0 := f1) (fun _ _ _ => rfl), hX1.off (fun x hx => mM_o hx), hR'⟩
    refine wp_sound (by rw [hi]; exact ok_L_law) (hd := [871, 885, 888, 916]) 400 _ _ _ _ _ _ ?_
    simp only [wp, stp, List.mem_cons, List.not_mem_nil, Nat.reduceEqDiff, or_false, or_self, false_or, or_true, true_or, Nat.reduceAdd, ↓reduceIte, List.getElem?_cons_zero, List.getElem?_cons_succ, nthV, List.set_cons_zero, List.set_cons_succ, noL, popA, catS, Value.category, List.length_cons, List.length_nil, Nat.reduceLT, Nat.reduceLeDiff, true_and, and_true, one0, zer1, imp_t, imp_f, ofN_nI, sdead, f20, f21, not_true_eq_false, upC_ap, upC_upC, retC, fitC, isRefT, Option.toList_some, Option.toList_none, List.cons_append, List.nil_append, Nat.lt_add_one, Nat.zero_lt_succ, Nat.le_refl, Nat.add_zero, Nat.zero_add, Nat.one_ne_zero, Nat.zero_ne_one, Nat.lt_irrefl, List.length_set, fa_L_law_24, hi, hd, hQ, mr_L_law, h1', tg_L_law, swt, lks, Int.reduceAdd]
    try simp only [m1f]
    try simp (disch := omega) only [nmod, nI_leI, nI_ltI, nI_eq, nI_clamp, vin_nI, nI_1, fa_lit, nI_add, nI_rm3, nI_rm2, pk_rem, pk_mul, pk_sub, pk_div, nI_eM, nI_Me, nI_pM, nI_pMz, nI_pM0, M1_lt, M1_le, nI_ltM, nI_leM, i8_nI, true_and, and_true, false_implies, true_implies, not_false_eq_true, not_true_eq_false, ne_eq, implies_true, Nat.not_lt_zero, Nat.zero_le, ite_min, max0, Nat.reduceLT, Nat.reduceLeDiff, Nat.reduceEqDiff, Nat.reduceAdd, Nat.reduceMul]
    try simp only [m1u]
    refine ⟨by omega, fun q => ?_, fun q => ?_⟩
    · rw [if_pos q] at hbe; rw [hbe]; exact k2
    · rw [if_neg q] at hbe; rw [hbe]; exact k2
  exact ⟨by omega, fun q => go _ (Or.inl rfl) (if_pos q), fun q => go _ (Or.inr rfl) (if_neg q)⟩
theorem t_br_25 (hG : Ok G) (hi : X.i = 212) (hd : X.d = d) (hd1 : 42 ≤ d) (hQ : ∀ n z f, X.Q (some (.int 1)) n z f) (hsp : 1000000 ≤ sp) (hlen : len ≤ 3072) (h6 : 6 * i + 6 ≤ len) (nxt : ∀ n z f, WX sp len scr (i + 1) f n z → V G X 916 [.ref sp, .ref 0, .ref 31, .int (nI (6 * i))] [] n z f) (hW : WX sp len scr i f n z) : V G X 893 [.ref sp, .ref 0, .ref 31, .int (nI (6 * i))] [] n z f := by
  obtain ⟨h1, S, L, tb, tl, fk, fp, kp, I, W, A, s, hm, hX, hR⟩ := hW
  obtain ⟨o8, h0⟩ : ∃ fs, f 0 = cO 8 fs := by
    obtain ⟨lp, N, Z, K, ro, to, ko, -, h⟩ := id hX
    exact ⟨_, h.2.2.2.2.1⟩
  refine wp_sound (by rw [hi]; exact ok_L_law) (hd := [902, 911, 916]) 400 _ _ _ _ _ _ ?_
  simp only [wp, stp, List.mem_cons, List.not_mem_nil, Nat.reduceEqDiff, or_false, or_self, false_or, or_true, true_or, Nat.reduceAdd, ↓reduceIte, List.getElem?_cons_zero, List.getElem?_cons_succ, nthV, List.set_cons_zero, List.set_cons_succ, noL, popA, catS, Value.category, List.length_cons, List.length_nil, Nat.reduceLT, Nat.reduceLeDiff, true_and, and_true, one0, zer1, imp_t, imp_f, ofN_nI, sdead, f20, f21, not_true_eq_false, upC_ap, upC_upC, retC, fitC, isRefT, Option.toList_some, Option.toList_none, List.cons_append, List.nil_append, Nat.lt_add_one, Nat.zero_lt_succ, Nat.le_refl, Nat.add_zero, Nat.zero_add, Nat.one_ne_zero, Nat.zero_ne_one, Nat.lt_irrefl, List.length_set, fa_L_law_25, hi, hd, hQ, mr_L_law, h1, h0, tg_L_law, swt, lks, Int.reduceAdd]
  try simp only [m1f]
  try simp (disch := omega) only [nmod, nI_leI, nI_ltI, nI_eq, nI_clamp, vin_nI, nI_1, fa_lit, nI_add, nI_rm3, nI_rm2, pk_rem, pk_mul, pk_sub, pk_div, nI_eM, nI_Me, nI_pM, nI_pMz, nI_pM0, M1_lt, M1_le, nI_ltM, nI_leM, i8_nI, true_and, and_true, false_implies, true_implies, not_false_eq_true, not_true_eq_false, ne_eq, implies_true, Nat.not_lt_zero, Nat.zero_le, ite_min, max0, Nat.reduceLT, Nat.reduceLeDiff, Nat.reduceEqDiff, Nat.reduceAdd, Nat.reduceMul]
  try simp only [m1u]
  refine ⟨by omega, by omega, _, pr_look (i := i) hG (by omega) (by omega) hX (scr (6 * i + 1)), ?_⟩
  rintro v n1 z1 f1 ⟨S', L', tb', tl', fk', fp', kp', ans, rfl, hX1, hF, h9⟩
  have h1' : f1 sp = cI len scr := (hF.2 sp hsp).trans h1
  have hm1 : f1 = mM f1 I W A s := mM.eq (f0 := f) (fun x a b => by rw [hF.1 x a b, ← hm])
  have h31 : f1 31 = cO 9 (mO I s.1) := by rw [hm1]; exact mM_31
  refine wp_sound (by rw [hi]; exact ok_L_law) (hd := [902, 911, 916]) 400 _ _ _ _ _ _ ?_
  simp only [wp, stp, List.mem_cons, List.not_mem_nil, Nat.reduceEqDiff, or_false, or_self, false_or, or_true, true_or, Nat.reduceAdd, ↓reduceIte, List.getElem?_cons_zero, List.getElem?_cons_succ, nthV, List.set_cons_zero, List.set_cons_succ, noL, popA, catS, Value.category, List.length_cons, List.length_nil, Nat.reduceLT, Nat.reduceLeDiff, true_and, and_true, one0, zer1, imp_t, imp_f, ofN_nI, sdead, f20, f21, not_true_eq_false, upC_ap, upC_upC, retC, fitC, isRefT, Option.toList_some, Option.toList_none, List.cons_append, List.nil_append, Nat.lt_add_one, Nat.zero_lt_succ, Nat.le_refl, Nat.add_zero, Nat.zero_add, Nat.one_ne_zero, Nat.zero_ne_one, Nat.lt_irrefl, List.length_set, fa_L_law_25, hi, hd, hQ, mr_L_law, h1', h31, tg_L_law, swt, lks, Int.reduceAdd]
  try simp only [m1f]
  try simp (disch := omega) only [nmod, nI_leI, nI_ltI, nI_eq, nI_clamp, vin_nI, nI_1, fa_lit, nI_add, nI_rm3, nI_rm2, pk_rem, pk_mul, pk_sub, pk_div, nI_eM, nI_Me, nI_pM, nI_pMz, nI_pM0, M1_lt, M1_le, nI_ltM, nI_leM, i8_nI, true_and, and_true, false_implies, true_implies, not_false_eq_true, not_true_eq_false, ne_eq, implies_true, Nat.not_lt_zero, Nat.zero_le, ite_min, max0, Nat.reduceLT, Nat.reduceLeDiff, Nat.reduceEqDiff, Nat.reduceAdd, Nat.reduceMul]
  try simp only [m1u]
  refine ⟨by omega, by omega, _, Tr.mem hm1 (h9 I W A s hR), ?_⟩
  rintro v n2 z2 f2 ⟨rfl, rfl, rfl, I', W', A', s', rfl, hR'⟩
  refine wp_sound (by rw [hi]; exact ok_L_law) (hd := [911, 916]) 400 _ _ _ _ _ _ ?_
  simp only [wp, stp, List.mem_cons, List.not_mem_nil, Nat.reduceEqDiff, or_false, or_self, false_or, or_true, true_or, Nat.reduceAdd, ↓reduceIte, List.getElem?_cons_zero, List.getElem?_cons_succ, nthV, List.set_cons_zero, List.set_cons_succ, noL, popA, catS, Value.category, List.length_cons, List.length_nil, Nat.reduceLT, Nat.reduceLeDiff, true_and, and_true, one0, zer1, imp_t, imp_f, ofN_nI, sdead, f20, f21, not_true_eq_false, upC_ap, upC_upC, retC, fitC, isRefT, Option.toList_some, Option.toList_none, List.cons_append, List.nil_append, Nat.lt_add_one, Nat.zero_lt_succ, Nat.le_refl, Nat.add_zero, Nat.zero_add, Nat.one_ne_zero, Nat.zero_ne_one, Nat.lt_irrefl, List.length_set, fa_L_law_25, hi, hd, hQ, mr_L_law, tg_L_law, swt, lks, Int.reduceAdd]
  try simp only [m1f]
  try simp (disch := omega) only [nmod, nI_leI, nI_ltI, nI_eq, nI_clamp, vin_nI, nI_1, fa_lit, nI_add, nI_rm3, nI_rm2, pk_rem, pk_mul, pk_sub, pk_div, nI_eM, nI_Me, nI_pM, nI_pMz, nI_pM0, M1_lt, M1_le, nI_ltM, nI_leM, i8_nI, true_and, and_true, false_implies, true_implies, not_false_eq_true, not_true_eq_false, ne_eq, implies_true, Nat.not_lt_zero, Nat.zero_le, ite_min, max0, Nat.reduceLT, Nat.reduceLeDiff, Nat.reduceEqDiff, Nat.reduceAdd, Nat.reduceMul]
  try simp only [m1u]
  exact nxt _ _ _ ⟨by rw [mM_o (by omega)]; exact h1', S', L', tb', tl', fk', fp', kp', I', W', A', s', mM.eq (f0 := f1) (fun _ _ _ => rfl), hX1.off (fun x hx => mM_o hx), hR'⟩
end Lbs
