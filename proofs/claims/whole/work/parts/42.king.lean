-- the king: what is paid
set_option maxRecDepth 100000
set_option maxHeartbeats 4000000
theorem upd_ap (g : Nat → Int32) (i : Nat) (v : Int32) (j : Nat) : upd g i v j = if j = i then v else g j := rfl
theorem cmN_nI (a : Int32) : (if nI 0 < (if a < nI 9999 then a else nI 9999) then (if a < nI 9999 then a else nI 9999) else nI 0) = nI (cmN a) := (cmN_spec a).2
def KB (k w : Nat) (f : Mf) (bY : Int32) : Prop := ∃ kn fk fa ne, KV k w f bY kn fk fa ne
section King2
variable {G : Gam} {d n z lp N Z K t c : Nat} {f : Mf} {S : Sta} {L : Lw}
theorem cl9 : (nI 4).toNatClampNeg = 4 ∧ (nI 5).toNatClampNeg = 5 ∧ (nI 6).toNatClampNeg = 6 ∧ (nI 7).toNatClampNeg = 7 := ⟨rfl, rfl, rfl, rfl⟩
theorem edN_le (S : Sta) (c : Nat) : edN S c ≤ 4 := by unfold edN; (repeat' split) <;> omega
theorem ybS_t {S : Sta} {o : Nat} (h : o < tn S) : ybS S o = S 2 o := if_pos h
theorem VB.tent {S : Sta} (h : VB S) {o : Nat} (ho : o < tn S) (hn : ¬ S 2 o = -1) : ∃ c, gsN S c ∧ S 2 o = nI c := by
  rcases h o (by omega) with q | q
  · rw [ybS_t ho] at q; exact absurd q hn
  · rw [ybS_t ho] at q; exact q
theorem CW.king_20 {n z : Nat} {f : Mf} (h : CW S L lp N Z K f n z) (a b c d e : Int32) : CW S L lp N Z K (upC f 20 (cO 2 [.ref 12, .int a, .ref 1, .ref 21, .int b, .int c, .int d, .int e])) n z := by
  obtain ⟨⟨-, F, hF⟩, ⟨-, F', hF'⟩⟩ := And.intro h.2.2.2.2.1 h.2.2.2.2.2.1
  refine h.off (fun x hx => upC_ne _ _ (by omega)) (fun x hx => upC_ne _ _ (by omega)) ?_ ?_
  · exact ⟨⟨_, _, _, _, _, upC_self _ _ _⟩, F, by rw [upC_ne _ _ (by omega)]; exact hF⟩
  · exact h.2.2.2.2.2.1.cong (upC_ne _ _ (by omega)) (upC_ne _ _ (by omega))
theorem CW.facts_20 {n z : Nat} {f : Mf} (h : CW S L lp N Z K f n z) (F : Nat → Int32) : CW S L lp N Z K (upC f 21 (cI 8 F)) n z := by
  obtain ⟨⟨⟨a, b, c, d, e, hk⟩, -⟩, ⟨⟨a', b', c', d', e', hk'⟩, -⟩⟩ := And.intro h.2.2.2.2.1 h.2.2.2.2.2.1
  refine h.off (fun x hx => upC_ne _ _ (by omega)) (fun x hx => upC_ne _ _ (by omega)) ?_ ?_
  · exact ⟨⟨a, b, c, d, e, by unfold KV at *; rw [upC_ne _ _ (by omega)]; exact hk⟩, F, upC_self _ _ _⟩
  · exact h.2.2.2.2.2.1.cong (upC_ne _ _ (by omega)) (upC_ne _ _ (by omega))
theorem t_payFor_20 (hG : Ok G) (hd1 : 2 ≤ d) (hB : Bd S) (hC : CR S lp f) (hL : LawA f n lp L) {bY kn fk fa0 ne0 : Int32} (hk : KV 20 12 f bY kn fk fa0 ne0) {F0 : Nat → Int32} (hF : f 21 = cI 8 F0) (hc : c < 100 ∧ c % 10 < wdt S ∧ c / 10 < hgt S) {fa ne ki : Nat} (hfa : fa < 1000) (hne : ne < 1000) (hki : ki < 1000) : Tr G d 39 [.ref 20, .int (nI c), .int (nI fa), .int (nI ne), .int (nI ki)] n z f (fun v n' z' f' => v = some (.int (nI (payF S L c fa ne ki))) ∧ n' = n ∧ z' = z ∧ ∃ F, f' = upC f 21 (cI 8 F)) := by
  have c1 := hC.1
  obtain ⟨-, -, wd, ht, e0, e1, hw1, hw2, hh1, hh2⟩ := id hB
  have ewd : wdt S = wd := by rw [wdt, e0, nI_clamp (by omega)]
  have eht : hgt S = ht := by rw [hgt, e1, nI_clamp (by omega)]
  obtain ⟨hc1, hc2, hc3⟩ := id hc
  obtain ⟨sp, m, st, kd, vl, ⟨l1, l2⟩, ⟨l3, l4⟩, l5, l6, l7, l8⟩ := hL
  have hed := edN_le S c
  have elp : (lp = 21) = False := eq_false (by omega)
  unfold KV at hk
  refine Tr.of2 (ls0 := [.ref 20, .int (nI c), .int (nI fa), .int (nI ne), .int (nI ki), dead, dead, dead, dead]) hG mo_X2_payFor (Nat.le_of_ble_eq_true rfl) rfl ?_
  intro X hi hd hXn hXz hXf hQ
  have h180 : ∀ h F, h < 10000 → h = cmN (L.2.2 (fcF S c fa ne ki)) → V G X 180 [.ref 20, .int (nI c), .int (nI fa), .int (nI ne), .int (nI ki), .int (nI (c % 10)), .int (nI (c / 10)), .int (nI (edN S c)), .int (nI h)] [] n z (upC f 21 (cI 8 F)) := by
    intro h F hh he
    refine wp_sound (by rw [hi]; exact ok_X2_payFor) (hd := [107, 172]) 400 _ _ _ _ _ _ ?_
    simp only [wp, stp, List.mem_cons, List.not_mem_nil, Nat.reduceEqDiff, or_false, or_self, false_or, or_true, true_or, Nat.reduceAdd, ↓reduceIte, List.getElem?_cons_zero, List.getElem?_cons_succ, nthV, List.set_cons_zero, List.set_cons_succ, noL, popA, catS, Value.category, List.length_cons, List.length_nil, Nat.reduceLT, Nat.reduceLeDiff, true_and, and_true, one0, zer1, imp_t, imp_f, ofN_nI, sdead, f20, f21, not_true_eq_false, upC_ap, upC_upC, retC, fitC, isRefT, Option.toList_some, Option.toList_none, List.cons_append, List.nil_append, Nat.lt_add_one, Nat.zero_lt_succ, Nat.le_refl, Nat.add_zero, Nat.zero_add, Nat.one_ne_zero, Nat.zero_ne_one, Nat.lt_irrefl, List.length_set, fa_X2_payFor, hi, hd, hQ, mr_X2_payFor]
    try simp only [m1f]
    try simp (disch := omega) only [nmod, nI_leI, nI_ltI, nI_eq, nI_clamp, vin_nI, nI_1, fa_lit, nI_add, nI_rm3, nI_rm2, pk_rem, pk_mul, pk_sub, pk_div, nI_eM, nI_Me, nI_pM, nI_pMz, nI_pM0, M1_lt, M1_le, nI_ltM, nI_leM, i8_nI, true_and, and_true, false_implies, true_implies, not_false_eq_true, not_true_eq_false, ne_eq, implies_true, Nat.not_lt_zero, Nat.zero_le, Nat.reduceLT, Nat.reduceLeDiff, Nat.reduceEqDiff, Nat.reduceAdd, Nat.reduceMul]
    try simp only [m1u]
    refine ⟨by rw [payF, ← he], F, rfl⟩
  have h79 : V G X 79 [.ref 20, .int (nI c), .int (nI fa), .int (nI ne), .int (nI ki), .int (nI (c % 10)), .int (nI (c / 10)), .int (nI (edN S c)), dead] [] n z f := by
    refine wp_sound (by rw [hi]; exact ok_X2_payFor) (hd := [107, 172]) 400 _ _ _ _ _ _ ?_
    simp only [wp, stp, List.mem_cons, List.not_mem_nil, Nat.reduceEqDiff, or_false, or_self, false_or, or_true, true_or, Nat.reduceAdd, ↓reduceIte, List.getElem?_cons_zero, List.getElem?_cons_succ, nthV, List.set_cons_zero, List.set_cons_succ, noL, popA, catS, Value.category, List.length_cons, List.length_nil, Nat.reduceLT, Nat.reduceLeDiff, true_and, and_true, one0, zer1, imp_t, imp_f, ofN_nI, sdead, f20, f21, not_true_eq_false, upC_ap, upC_upC, retC, fitC, isRefT, Option.toList_some, Option.toList_none, List.cons_append, List.nil_append, Nat.lt_add_one, Nat.zero_lt_succ, Nat.le_refl, Nat.add_zero, Nat.zero_add, Nat.one_ne_zero, Nat.zero_ne_one, Nat.lt_irrefl, List.length_set, fa_X2_payFor, hi, hd, hQ, mr_X2_payFor, hk, hF, c1]
    try simp only [m1f]
    try simp (disch := omega) only [nmod, nI_leI, nI_ltI, nI_eq, nI_clamp, vin_nI, nI_1, fa_lit, nI_add, nI_rm3, nI_rm2, pk_rem, pk_mul, pk_sub, pk_div, nI_eM, nI_Me, nI_pM, nI_pMz, nI_pM0, M1_lt, M1_le, nI_ltM, nI_leM, i8_nI, true_and, and_true, false_implies, true_implies, not_false_eq_true, not_true_eq_false, ne_eq, implies_true, Nat.not_lt_zero, Nat.zero_le, Nat.reduceLT, Nat.reduceLeDiff, Nat.reduceEqDiff, Nat.reduceAdd, Nat.reduceMul]
    try simp only [m1u]
    refine ⟨by omega, _, t_waterBeside hG (hC.off (fun k _ _ => upC_ne _ _ (by omega))) hB hc, ?_⟩
    rintro v n' z' f' ⟨rfl, rfl, rfl, rfl⟩
    refine wp_sound (by rw [hi]; exact ok_X2_payFor) (hd := [107, 172, 180]) 400 _ _ _ _ _ _ ?_
    simp only [wp, stp, List.mem_cons, List.not_mem_nil, Nat.reduceEqDiff, or_false, or_self, false_or, or_true, true_or, Nat.reduceAdd, ↓reduceIte, List.getElem?_cons_zero, List.getElem?_cons_succ, nthV, List.set_cons_zero, List.set_cons_succ, noL, popA, catS, Value.category, List.length_cons, List.length_nil, Nat.reduceLT, Nat.reduceLeDiff, true_and, and_true, one0, zer1, imp_t, imp_f, ofN_nI, sdead, f20, f21, not_true_eq_false, upC_ap, upC_upC, retC, fitC, isRefT, Option.toList_some, Option.toList_none, List.cons_append, List.nil_append, Nat.lt_add_one, Nat.zero_lt_succ, Nat.le_refl, Nat.add_zero, Nat.zero_add, Nat.one_ne_zero, Nat.zero_ne_one, Nat.lt_irrefl, List.length_set, fa_X2_payFor, hi, hd, hQ, mr_X2_payFor, hk, hF, c1, l5, elp]
    try simp only [m1f]
    try simp (disch := omega) only [nmod, nI_leI, nI_ltI, nI_eq, nI_clamp, vin_nI, nI_1, fa_lit, nI_add, nI_rm3, nI_rm2, pk_rem, pk_mul, pk_sub, pk_div, nI_eM, nI_Me, nI_pM, nI_pMz, nI_pM0, M1_lt, M1_le, nI_ltM, nI_leM, i8_nI, true_and, and_true, false_implies, true_implies, not_false_eq_true, not_true_eq_false, ne_eq, implies_true, Nat.not_lt_zero, Nat.zero_le, Nat.reduceLT, Nat.reduceLeDiff, Nat.reduceEqDiff, Nat.reduceAdd, Nat.reduceMul]
    try simp only [m1u]
    refine ⟨by omega, _, t_amount hG (by omega) (by rw [upC_ne _ _ (by omega)]; exact l5) (by rw [upC_ne _ _ (by omega)]; exact l6) (upC_self _ _ _) l7, ?_⟩
    rintro v n' z' f' ⟨rfl, rfl, rfl, rfl⟩
    rw [l8 _ (fcF S c fa ne ki) (fun j hj => by
      rcases (by omega : j = 0 ∨ j = 1 ∨ j = 2 ∨ j = 3 ∨ j = 4 ∨ j = 5 ∨ j = 6 ∨ j = 7) with rfl | rfl | rfl | rfl | rfl | rfl | rfl | rfl <;> rfl)]
    refine wp_sound (by rw [hi]; exact ok_X2_payFor) (hd := [107, 172, 180]) 400 _ _ _ _ _ _ ?_
    simp only [wp, stp, List.mem_cons, List.not_mem_nil, Nat.reduceEqDiff, or_false, or_self, false_or, or_true, true_or, Nat.reduceAdd, ↓reduceIte, List.getElem?_cons_zero, List.getElem?_cons_succ, nthV, List.set_cons_zero, List.set_cons_succ, noL, popA, catS, Value.category, List.length_cons, List.length_nil, Nat.reduceLT, Nat.reduceLeDiff, true_and, and_true, one0, zer1, imp_t, imp_f, ofN_nI, sdead, f20, f21, not_true_eq_false, upC_ap, upC_upC, retC, fitC, isRefT, Option.toList_some, Option.toList_none, List.cons_append, List.nil_append, Nat.lt_add_one, Nat.zero_lt_succ, Nat.le_refl, Nat.add_zero, Nat.zero_add, Nat.one_ne_zero, Nat.zero_ne_one, Nat.lt_irrefl, List.length_set, fa_X2_payFor, hi, hd, hQ, mr_X2_payFor, hk, hF, c1]
    rw [cmN_nI]
    refine ⟨by omega, by omega, h180 _ _ ?_ rfl⟩
    have := (cmN_spec (L.2.2 (fcF S c fa ne ki))).1
    omega
  have h75 : ∀ a b e : Nat, a ≤ 2 → b ≤ 2 → e ≤ 2 → e + (b + a) = edN S c → V G X 75 [.ref 20, .int (nI c), .int (nI fa), .int (nI ne), .int (nI ki), .int (nI (c % 10)), .int (nI (c / 10)), .int (nI e), dead] [.int (nI a), .int (nI b), .int (nI e)] n z f := by
    intro a b e ha hb he h
    refine wp_sound (by rw [hi]; exact ok_X2_payFor) (hd := [79, 107, 172]) 400 _ _ _ _ _ _ ?_
    simp only [wp, stp, List.mem_cons, List.not_mem_nil, Nat.reduceEqDiff, or_false, or_self, false_or, or_true, true_or, Nat.reduceAdd, ↓reduceIte, List.getElem?_cons_zero, List.getElem?_cons_succ, nthV, List.set_cons_zero, List.set_cons_succ, noL, popA, catS, Value.category, List.length_cons, List.length_nil, Nat.reduceLT, Nat.reduceLeDiff, true_and, and_true, one0, zer1, imp_t, imp_f, ofN_nI, sdead, f20, f21, not_true_eq_false, upC_ap, upC_upC, retC, fitC, isRefT, Option.toList_some, Option.toList_none, List.cons_append, List.nil_append, Nat.lt_add_one, Nat.zero_lt_succ, Nat.le_refl, Nat.add_zero, Nat.zero_add, Nat.one_ne_zero, Nat.zero_ne_one, Nat.lt_irrefl, List.length_set, fa_X2_payFor, hi, hd, hQ, mr_X2_payFor, hk, hF, c1]
    try simp only [m1f]
    try simp (disch := omega) only [nmod, nI_leI, nI_ltI, nI_eq, nI_clamp, vin_nI, nI_1, fa_lit, nI_add, nI_rm3, nI_rm2, pk_rem, pk_mul, pk_sub, pk_div, nI_eM, nI_Me, nI_pM, nI_pMz, nI_pM0, M1_lt, M1_le, nI_ltM, nI_leM, i8_nI, true_and, and_true, false_implies, true_implies, not_false_eq_true, not_true_eq_false, ne_eq, implies_true, Nat.not_lt_zero, Nat.zero_le, Nat.reduceLT, Nat.reduceLeDiff, Nat.reduceEqDiff, Nat.reduceAdd, Nat.reduceMul]
    try simp only [m1u]
    rw [h]
    exact h79
  have h56 : ∀ b e : Nat, b ≤ 2 → e ≤ 2 → e + (b + (if c / 10 + 1 = hgt S then 1 else 0)) = edN S c → V G X 56 [.ref 20, .int (nI c), .int (nI fa), .int (nI ne), .int (nI ki), .int (nI (c % 10)), .int (nI (c / 10)), .int (nI e), dead] [.int (nI b), .int (nI e)] n z f := by
    intro b e hb he h
    rw [eht] at h
    refine wp_sound (by rw [hi]; exact ok_X2_payFor) (hd := [75, 107, 172]) 400 _ _ _ _ _ _ ?_
    simp only [wp, stp, List.mem_cons, List.not_mem_nil, Nat.reduceEqDiff, or_false, or_self, false_or, or_true, true_or, Nat.reduceAdd, ↓reduceIte, List.getElem?_cons_zero, List.getElem?_cons_succ, nthV, List.set_cons_zero, List.set_cons_succ, noL, popA, catS, Value.category, List.length_cons, List.length_nil, Nat.reduceLT, Nat.reduceLeDiff, true_and, and_true, one0, zer1, imp_t, imp_f, ofN_nI, sdead, f20, f21, not_true_eq_false, upC_ap, upC_upC, retC, fitC, isRefT, Option.toList_some, Option.toList_none, List.cons_append, List.nil_append, Nat.lt_add_one, Nat.zero_lt_succ, Nat.le_refl, Nat.add_zero, Nat.zero_add, Nat.one_ne_zero, Nat.zero_ne_one, Nat.lt_irrefl, List.length_set, fa_X2_payFor, hi, hd, hQ, mr_X2_payFor, hk, hF, c1, e0, e1]
    try simp only [m1f]
    try simp (disch := omega) only [nmod, nI_leI, nI_ltI, nI_eq, nI_clamp, vin_nI, nI_1, fa_lit, nI_add, nI_rm3, nI_rm2, pk_rem, pk_mul, pk_sub, pk_div, nI_eM, nI_Me, nI_pM, nI_pMz, nI_pM0, M1_lt, M1_le, nI_ltM, nI_leM, i8_nI, true_and, and_true, false_implies, true_implies, not_false_eq_true, not_true_eq_false, ne_eq, implies_true, Nat.not_lt_zero, Nat.zero_le, Nat.reduceLT, Nat.reduceLeDiff, Nat.reduceEqDiff, Nat.reduceAdd, Nat.reduceMul]
    try simp only [m1u]
    exact ⟨fun q => h75 _ _ _ (by omega) hb he (by rw [← h, if_neg (by omega)]), fun q => h75 _ _ _ (by omega) hb he (by rw [← h, if_pos (by omega)])⟩
  have h41 : ∀ a b : Nat, a ≤ 1 → b ≤ 1 → b + a = (if c % 10 = 0 then 1 else 0) + (if c % 10 + 1 = wdt S then 1 else 0) → V G X 41 [.ref 20, .int (nI c), .int (nI fa), .int (nI ne), .int (nI ki), .int (nI (c % 10)), .int (nI (c / 10)), dead, dead] [.int (nI a), .int (nI b)] n z f := by
    intro a b ha hb h
    refine wp_sound (by rw [hi]; exact ok_X2_payFor) (hd := [56, 107, 172]) 400 _ _ _ _ _ _ ?_
    simp only [wp, stp, List.mem_cons, List.not_mem_nil, Nat.reduceEqDiff, or_false, or_self, false_or, or_true, true_or, Nat.reduceAdd, ↓reduceIte, List.getElem?_cons_zero, List.getElem?_cons_succ, nthV, List.set_cons_zero, List.set_cons_succ, noL, popA, catS, Value.category, List.length_cons, List.length_nil, Nat.reduceLT, Nat.reduceLeDiff, true_and, and_true, one0, zer1, imp_t, imp_f, ofN_nI, sdead, f20, f21, not_true_eq_false, upC_ap, upC_upC, retC, fitC, isRefT, Option.toList_some, Option.toList_none, List.cons_append, List.nil_append, Nat.lt_add_one, Nat.zero_lt_succ, Nat.le_refl, Nat.add_zero, Nat.zero_add, Nat.one_ne_zero, Nat.zero_ne_one, Nat.lt_irrefl, List.length_set, fa_X2_payFor, hi, hd, hQ, mr_X2_payFor, hk, hF, c1, e0, e1]
    try simp only [m1f]
    try simp (disch := omega) only [nmod, nI_leI, nI_ltI, nI_eq, nI_clamp, vin_nI, nI_1, fa_lit, nI_add, nI_rm3, nI_rm2, pk_rem, pk_mul, pk_sub, pk_div, nI_eM, nI_Me, nI_pM, nI_pMz, nI_pM0, M1_lt, M1_le, nI_ltM, nI_leM, i8_nI, true_and, and_true, false_implies, true_implies, not_false_eq_true, not_true_eq_false, ne_eq, implies_true, Nat.not_lt_zero, Nat.zero_le, Nat.reduceLT, Nat.reduceLeDiff, Nat.reduceEqDiff, Nat.reduceAdd, Nat.reduceMul]
    try simp only [m1u]
    exact ⟨fun q => h56 _ _ (by omega) (by omega) (by rw [edN, h, if_neg (show ¬ c / 10 = 0 by omega)]), fun q => h56 _ _ (by omega) (by omega) (by rw [edN, h, if_pos (show c / 10 = 0 by omega)])⟩
  have h22 : ∀ b : Nat, b ≤ 1 → b = (if c % 10 = 0 then 1 else 0) → V G X 22 [.ref 20, .int (nI c), .int (nI fa), .int (nI ne), .int (nI ki), .int (nI (c % 10)), .int (nI (c / 10)), dead, dead] [.int (nI b)] n z f := by
    intro b hb h
    refine wp_sound (by rw [hi]; exact ok_X2_payFor) (hd := [41, 107, 172]) 400 _ _ _ _ _ _ ?_
    simp only [wp, stp, List.mem_cons, List.not_mem_nil, Nat.reduceEqDiff, or_false, or_self, false_or, or_true, true_or, Nat.reduceAdd, ↓reduceIte, List.getElem?_cons_zero, List.getElem?_cons_succ, nthV, List.set_cons_zero, List.set_cons_succ, noL, popA, catS, Value.category, List.length_cons, List.length_nil, Nat.reduceLT, Nat.reduceLeDiff, true_and, and_true, one0, zer1, imp_t, imp_f, ofN_nI, sdead, f20, f21, not_true_eq_false, upC_ap, upC_upC, retC, fitC, isRefT, Option.toList_some, Option.toList_none, List.cons_append, List.nil_append, Nat.lt_add_one, Nat.zero_lt_succ, Nat.le_refl, Nat.add_zero, Nat.zero_add, Nat.one_ne_zero, Nat.zero_ne_one, Nat.lt_irrefl, List.length_set, fa_X2_payFor, hi, hd, hQ, mr_X2_payFor, hk, hF, c1, e0, e1]
    try simp only [m1f]
    try simp (disch := omega) only [nmod, nI_leI, nI_ltI, nI_eq, nI_clamp, vin_nI, nI_1, fa_lit, nI_add, nI_rm3, nI_rm2, pk_rem, pk_mul, pk_sub, pk_div, nI_eM, nI_Me, nI_pM, nI_pMz, nI_pM0, M1_lt, M1_le, nI_ltM, nI_leM, i8_nI, true_and, and_true, false_implies, true_implies, not_false_eq_true, not_true_eq_false, ne_eq, implies_true, Nat.not_lt_zero, Nat.zero_le, Nat.reduceLT, Nat.reduceLeDiff, Nat.reduceEqDiff, Nat.reduceAdd, Nat.reduceMul]
    try simp only [m1u]
    exact ⟨fun q => h41 _ _ (by omega) hb (by rw [← h, if_neg (by omega)]), fun q => h41 _ _ (by omega) hb (by rw [← h, if_pos (by omega)])⟩
  refine wp_sound (by rw [hi]; exact ok_X2_payFor) (hd := [22, 107, 172]) 400 _ _ _ _ _ _ ?_
  simp only [wp, stp, List.mem_cons, List.not_mem_nil, Nat.reduceEqDiff, or_false, or_self, false_or, or_true, true_or, Nat.reduceAdd, ↓reduceIte, List.getElem?_cons_zero, List.getElem?_cons_succ, nthV, List.set_cons_zero, List.set_cons_succ, noL, popA, catS, Value.category, List.length_cons, List.length_nil, Nat.reduceLT, Nat.reduceLeDiff, true_and, and_true, one0, zer1, imp_t, imp_f, ofN_nI, sdead, f20, f21, not_true_eq_false, upC_ap, upC_upC, retC, fitC, isRefT, Option.toList_some, Option.toList_none, List.cons_append, List.nil_append, Nat.lt_add_one, Nat.zero_lt_succ, Nat.le_refl, Nat.add_zero, Nat.zero_add, Nat.one_ne_zero, Nat.zero_ne_one, Nat.lt_irrefl, List.length_set, fa_X2_payFor, hi, hd, hQ, mr_X2_payFor, hk, hF, c1, e0, e1]
  try simp only [m1f]
  try simp (disch := omega) only [nmod, nI_leI, nI_ltI, nI_eq, nI_clamp, vin_nI, nI_1, fa_lit, nI_add, nI_rm3, nI_rm2, pk_rem, pk_mul, pk_sub, pk_div, nI_eM, nI_Me, nI_pM, nI_pMz, nI_pM0, M1_lt, M1_le, nI_ltM, nI_leM, i8_nI, true_and, and_true, false_implies, true_implies, not_false_eq_true, not_true_eq_false, ne_eq, implies_true, Nat.not_lt_zero, Nat.zero_le, Nat.reduceLT, Nat.reduceLeDiff, Nat.reduceEqDiff, Nat.reduceAdd, Nat.reduceMul]
  try simp only [m1u]
  exact ⟨fun q => h22 _ (by omega) (by rw [if_neg (by omega)]), fun q => h22 _ (by omega) (by rw [if_pos (by omega)])⟩
theorem t_measureKin_20 (hG : Ok G) (hd1 : 3 ≤ d) (hB : Bd S) (hW : CW S L lp N Z K f n z) (hV : VB S) {bY : Int32} (hk : KB 20 12 f bY) (ht : t < tn S) : Tr G d 43 [.ref 20, .int (nI t)] n z f (fun v n' z' f' => v = none ∧ CW S L lp N Z K f' n' z' ∧ (∃ fa ne, KV 20 12 f' bY (nI (knN S t)) (nI (fkN S 1 t)) fa ne) ∧ FRM [ 13, 14, 15, 20 ] f n f' ∧ n ≤ n') := by
  obtain ⟨kn0, fk0, fa0, ne0, hk⟩ := hk
  obtain ⟨⟨b1, b2⟩, ⟨-, b4⟩, -⟩ := id hB
  refine Tr.of2 (ls0 := [.ref 20, .int (nI t), dead]) hG mo_X2_measureKin (Nat.le_of_ble_eq_true rfl) rfl ?_
  intro X hi hd hXn hXz hXf hQ
  have loop : ∀ k' o n' z' g fa ne, o + k' = tn S → CW S L lp N Z K g n' z' → KV 20 12 g bY (nI (cnt1 (fun o => kiS S o t) o)) (nI (mnF (fkF S 1 t) o)) fa ne → FRM [ 13, 14, 15, 20 ] f n g → n ≤ n' → V G X 13 [.ref 20, .int (nI t), .int (nI o)] [] n' z' g := by
    intro k'
    induction k' with
    | zero =>
      intro o n' z' g fa ne ho hW' hk' hF' hn'
      have c1 := hW'.1.1
      unfold KV at hk'
      have : o = tn S := by omega
      subst this
      refine wp_sound (by rw [hi]; exact ok_X2_measureKin) (hd := [13, 33, 60]) 400 _ _ _ _ _ _ ?_
      simp only [wp, stp, List.mem_cons, List.not_mem_nil, Nat.reduceEqDiff, or_false, or_self, false_or, or_true, true_or, Nat.reduceAdd, ↓reduceIte, List.getElem?_cons_zero, List.getElem?_cons_succ, nthV, List.set_cons_zero, List.set_cons_succ, noL, popA, catS, Value.category, List.length_cons, List.length_nil, Nat.reduceLT, Nat.reduceLeDiff, true_and, and_true, one0, zer1, imp_t, imp_f, ofN_nI, sdead, f20, f21, not_true_eq_false, upC_ap, upC_upC, retC, fitC, isRefT, Option.toList_some, Option.toList_none, List.cons_append, List.nil_append, Nat.lt_add_one, Nat.zero_lt_succ, Nat.le_refl, Nat.add_zero, Nat.zero_add, Nat.one_ne_zero, Nat.zero_ne_one, Nat.lt_irrefl, List.length_set, fa_X2_measureKin, hi, hd, hQ, mr_X2_measureKin, hk', c1, b1]
      try simp only [m1f]
      try simp (disch := omega) only [nmod, nI_leI, nI_ltI, nI_eq, nI_clamp, vin_nI, nI_1, fa_lit, nI_add, nI_rm3, nI_rm2, pk_rem, pk_mul, pk_sub, pk_div, nI_eM, nI_Me, nI_pM, nI_pMz, nI_pM0, M1_lt, M1_le, nI_ltM, nI_leM, i8_nI, true_and, and_true, false_implies, true_implies, not_false_eq_true, not_true_eq_false, ne_eq, implies_true, Nat.not_lt_zero, Nat.zero_le, Nat.reduceLT, Nat.reduceLeDiff, Nat.reduceEqDiff, Nat.reduceAdd, Nat.reduceMul]
      try simp only [m1u]
      exact ⟨fun _ => ⟨hW', ⟨fa, ne, hk'⟩, hF', hn'⟩, fun h => absurd (Nat.le_refl _) h⟩
    | succ k' ih =>
      intro o n' z' g fa ne ho hW' hk' hF' hn'
      obtain ⟨c1, -, ya, -, -, -, -, -, -, -, -, c3, c3', -⟩ := id hW'.1
      have hcl := cnt1_le (fun o => kiS S o t) o
      have hk2 := hk'
      unfold KV at hk'
      refine wp_sound (by rw [hi]; exact ok_X2_measureKin) (hd := [13, 33, 60, 68]) 400 _ _ _ _ _ _ ?_
      simp only [wp, stp, List.mem_cons, List.not_mem_nil, Nat.reduceEqDiff, or_false, or_self, false_or, or_true, true_or, Nat.reduceAdd, ↓reduceIte, List.getElem?_cons_zero, List.getElem?_cons_succ, nthV, List.set_cons_zero, List.set_cons_succ, noL, popA, catS, Value.category, List.length_cons, List.length_nil, Nat.reduceLT, Nat.reduceLeDiff, true_and, and_true, one0, zer1, imp_t, imp_f, ofN_nI, sdead, f20, f21, not_true_eq_false, upC_ap, upC_upC, retC, fitC, isRefT, Option.toList_some, Option.toList_none, List.cons_append, List.nil_append, Nat.lt_add_one, Nat.zero_lt_succ, Nat.le_refl, Nat.add_zero, Nat.zero_add, Nat.one_ne_zero, Nat.zero_ne_one, Nat.lt_irrefl, List.length_set, fa_X2_measureKin, hi, hd, hQ, mr_X2_measureKin, hk', c1, b1]
      try simp only [m1f]
      try simp (disch := omega) only [nmod, nI_leI, nI_ltI, nI_eq, nI_clamp, vin_nI, nI_1, fa_lit, nI_add, nI_rm3, nI_rm2, pk_rem, pk_mul, pk_sub, pk_div, nI_eM, nI_Me, nI_pM, nI_pMz, nI_pM0, M1_lt, M1_le, nI_ltM, nI_leM, i8_nI, true_and, and_true, false_implies, true_implies, not_false_eq_true, not_true_eq_false, ne_eq, implies_true, Nat.not_lt_zero, Nat.zero_le, Nat.reduceLT, Nat.reduceLeDiff, Nat.reduceEqDiff, Nat.reduceAdd, Nat.reduceMul]
      try simp only [m1u]
      refine ⟨fun h => absurd h (by omega), fun _ => ⟨by omega, _, t_areKin hG hW'.1 hB (by omega) (by omega), ?_⟩⟩
      rintro v n1 z1 f1 ⟨rfl, rfl, rfl, rfl⟩
      have h68 : ∀ n' z' g fa ne, CW S L lp N Z K g n' z' → KV 20 12 g bY (nI (cnt1 (fun o => kiS S o t) (o + 1))) (nI (mnF (fkF S 1 t) (o + 1))) fa ne → FRM [ 13, 14, 15, 20 ] f n g → n ≤ n' → V G X 68 [.ref 20, .int (nI t), .int (nI o)] [] n' z' g := by
        intro n' z' g fa ne q1 q2 q3 q4
        refine wp_sound (by rw [hi]; exact ok_X2_measureKin) (hd := [13, 33, 60]) 400 _ _ _ _ _ _ ?_
        simp only [wp, stp, List.mem_cons, List.not_mem_nil, Nat.reduceEqDiff, or_false, or_self, false_or, or_true, true_or, Nat.reduceAdd, ↓reduceIte, List.getElem?_cons_zero, List.getElem?_cons_succ, nthV, List.set_cons_zero, List.set_cons_succ, noL, popA, catS, Value.category, List.length_cons, List.length_nil, Nat.reduceLT, Nat.reduceLeDiff, true_and, and_true, one0, zer1, imp_t, imp_f, ofN_nI, sdead, f20, f21, not_true_eq_false, upC_ap, upC_upC, retC, fitC, isRefT, Option.toList_some, Option.toList_none, List.cons_append, List.nil_append, Nat.lt_add_one, Nat.zero_lt_succ, Nat.le_refl, Nat.add_zero, Nat.zero_add, Nat.one_ne_zero, Nat.zero_ne_one, Nat.lt_irrefl, List.length_set, fa_X2_measureKin, hi, hd, hQ, mr_X2_measureKin]
        try simp only [m1f]
        try simp (disch := omega) only [nmod, nI_leI, nI_ltI, nI_eq, nI_clamp, vin_nI, nI_1, fa_lit, nI_add, nI_rm3, nI_rm2, pk_rem, pk_mul, pk_sub, pk_div, nI_eM, nI_Me, nI_pM, nI_pMz, nI_pM0, M1_lt, M1_le, nI_ltM, nI_leM, i8_nI, true_and, and_true, false_implies, true_implies, not_false_eq_true, not_true_eq_false, ne_eq, implies_true, Nat.not_lt_zero, Nat.zero_le, Nat.reduceLT, Nat.reduceLeDiff, Nat.reduceEqDiff, Nat.reduceAdd, Nat.reduceMul]
        try simp only [m1u]
        exact ih (o + 1) n' z' g fa ne (by omega) q1 q2 q3 q4
      refine wp_sound (by rw [hi]; exact ok_X2_measureKin) (hd := [13, 33, 60, 68]) 400 _ _ _ _ _ _ ?_
      simp only [wp, stp, List.mem_cons, List.not_mem_nil, Nat.reduceEqDiff, or_false, or_self, false_or, or_true, true_or, Nat.reduceAdd, ↓reduceIte, List.getElem?_cons_zero, List.getElem?_cons_succ, nthV, List.set_cons_zero, List.set_cons_succ, noL, popA, catS, Value.category, List.length_cons, List.length_nil, Nat.reduceLT, Nat.reduceLeDiff, true_and, and_true, one0, zer1, imp_t, imp_f, ofN_nI, sdead, f20, f21, not_true_eq_false, upC_ap, upC_upC, retC, fitC, isRefT, Option.toList_some, Option.toList_none, List.cons_append, List.nil_append, Nat.lt_add_one, Nat.zero_lt_succ, Nat.le_refl, Nat.add_zero, Nat.zero_add, Nat.one_ne_zero, Nat.zero_ne_one, Nat.lt_irrefl, List.length_set, fa_X2_measureKin, hi, hd, hQ, mr_X2_measureKin, hk', c1, c3, bI_0, b1]
      try simp only [m1f]
      try simp (disch := omega) only [nmod, nI_leI, nI_ltI, nI_eq, nI_clamp, vin_nI, nI_1, fa_lit, nI_add, nI_rm3, nI_rm2, pk_rem, pk_mul, pk_sub, pk_div, nI_eM, nI_Me, nI_pM, nI_pMz, nI_pM0, M1_lt, M1_le, nI_ltM, nI_leM, i8_nI, true_and, and_true, false_implies, true_implies, not_false_eq_true, not_true_eq_false, ne_eq, implies_true, Nat.not_lt_zero, Nat.zero_le, Nat.reduceLT, Nat.reduceLeDiff, Nat.reduceEqDiff, Nat.reduceAdd, Nat.reduceMul]
      try simp only [m1u]
      have hml := mnF_le (fkF S 1 t) o
      refine ⟨fun h => h68 _ _ _ fa ne hW' ?_ hF' hn', fun h => ?_⟩
      · rw [cnt1, mnF, if_neg h, show fkF S 1 t o = 99 from if_neg h, Nat.min_eq_left hml]
        exact hk2
      · have h := Decidable.not_not.mp h
        obtain ⟨y, hy1, hy2⟩ := hV.tent (by omega : o < tn S) h.2.1
        have hcy : (nI y).toNatClampNeg = y := nI_clamp (by have := hy1.1.1; omega)
        rw [c3' o (by omega), hy2]
        refine ⟨by omega, by omega, _, t_measureAt_20 hG (by omega) hB (hW'.king_20 _ _ _ _ _) hV (upC_self _ _ _) hml (by omega) hy1, ?_⟩
        rintro v n2 z2 f2 ⟨rfl, hW2, hk3, hF2, hn2⟩
        have hk4 := hk3
        unfold KV at hk3
        refine wp_sound (by rw [hi]; exact ok_X2_measureKin) (hd := [13, 33, 60, 68]) 400 _ _ _ _ _ _ ?_
        simp only [wp, stp, List.mem_cons, List.not_mem_nil, Nat.reduceEqDiff, or_false, or_self, false_or, or_true, true_or, Nat.reduceAdd, ↓reduceIte, List.getElem?_cons_zero, List.getElem?_cons_succ, nthV, List.set_cons_zero, List.set_cons_succ, noL, popA, catS, Value.category, List.length_cons, List.length_nil, Nat.reduceLT, Nat.reduceLeDiff, true_and, and_true, one0, zer1, imp_t, imp_f, ofN_nI, sdead, f20, f21, not_true_eq_false, upC_ap, upC_upC, retC, fitC, isRefT, Option.toList_some, Option.toList_none, List.cons_append, List.nil_append, Nat.lt_add_one, Nat.zero_lt_succ, Nat.le_refl, Nat.add_zero, Nat.zero_add, Nat.one_ne_zero, Nat.zero_ne_one, Nat.lt_irrefl, List.length_set, fa_X2_measureKin, hi, hd, hQ, mr_X2_measureKin, hk3]
        try simp only [m1f]
        try simp (disch := omega) only [nmod, nI_leI, nI_ltI, nI_eq, nI_clamp, vin_nI, nI_1, fa_lit, nI_add, nI_rm3, nI_rm2, pk_rem, pk_mul, pk_sub, pk_div, nI_eM, nI_Me, nI_pM, nI_pMz, nI_pM0, M1_lt, M1_le, nI_ltM, nI_leM, i8_nI, true_and, and_true, false_implies, true_implies, not_false_eq_true, not_true_eq_false, ne_eq, implies_true, Nat.not_lt_zero, Nat.zero_le, Nat.reduceLT, Nat.reduceLeDiff, Nat.reduceEqDiff, Nat.reduceAdd, Nat.reduceMul]
        try simp only [m1u]
        refine h68 _ _ _ (nI (min (mnF (fkF S 1 t) o) (faA S 1 o y))) (nI (neA S 1 o y)) (hW2.king_20 _ _ _ _ _) ?_ ((FRM.trans (hF'.up (by omega) (by simp)) hn' hF2).up (by omega) (by simp)) (by omega)
        unfold KV
        rw [upC_self, cnt1, mnF, if_pos h, show fkF S 1 t o = faA S 1 o y by rw [fkF, if_pos h, hy2, hcy]]
        rfl
  unfold KV at hk
  refine wp_sound (by rw [hi]; exact ok_X2_measureKin) (hd := [13, 33, 60]) 400 _ _ _ _ _ _ ?_
  simp only [wp, stp, List.mem_cons, List.not_mem_nil, Nat.reduceEqDiff, or_false, or_self, false_or, or_true, true_or, Nat.reduceAdd, ↓reduceIte, List.getElem?_cons_zero, List.getElem?_cons_succ, nthV, List.set_cons_zero, List.set_cons_succ, noL, popA, catS, Value.category, List.length_cons, List.length_nil, Nat.reduceLT, Nat.reduceLeDiff, true_and, and_true, one0, zer1, imp_t, imp_f, ofN_nI, sdead, f20, f21, not_true_eq_false, upC_ap, upC_upC, retC, fitC, isRefT, Option.toList_some, Option.toList_none, List.cons_append, List.nil_append, Nat.lt_add_one, Nat.zero_lt_succ, Nat.le_refl, Nat.add_zero, Nat.zero_add, Nat.one_ne_zero, Nat.zero_ne_one, Nat.lt_irrefl, List.length_set, fa_X2_measureKin, hi, hd, hQ, mr_X2_measureKin, hk]
  try simp only [m1f]
  try simp (disch := omega) only [nmod, nI_leI, nI_ltI, nI_eq, nI_clamp, vin_nI, nI_1, fa_lit, nI_add, nI_rm3, nI_rm2, pk_rem, pk_mul, pk_sub, pk_div, nI_eM, nI_Me, nI_pM, nI_pMz, nI_pM0, M1_lt, M1_le, nI_ltM, nI_leM, i8_nI, true_and, and_true, false_implies, true_implies, not_false_eq_true, not_true_eq_false, ne_eq, implies_true, Nat.not_lt_zero, Nat.zero_le, Nat.reduceLT, Nat.reduceLeDiff, Nat.reduceEqDiff, Nat.reduceAdd, Nat.reduceMul]
  try simp only [m1u]
  exact loop (tn S) 0 n z _ _ _ (by omega) (hW.king_20 _ _ _ _ _) (upC_self _ _ _) ((FRM.refl _ _ _).up (by omega) (by simp)) (Nat.le_refl _)
theorem t_payOf_20 (hG : Ok G) (hd1 : 4 ≤ d) (hB : Bd S) (hW : CW S L lp N Z K f n z) (hV : VB S) {bY : Int32} (hk : KB 20 12 f bY) (ht : t < tn S) (htn : ¬ S 2 t = -1) : Tr G d 38 [.ref 20, .int (nI t)] n z f (fun v n' z' f' => v = some (.int (nI (pyN S L 1 t))) ∧ CW S L lp N Z K f' n' z' ∧ KB 20 12 f' bY ∧ FRM [ 13, 14, 15, 20, 21 ] f n f' ∧ n ≤ n') := by
  obtain ⟨kn0, fk0, fa0, ne0, hk0⟩ := id hk
  obtain ⟨⟨b1, b2⟩, ⟨-, b4⟩, -⟩ := id hB
  obtain ⟨y, hy1, hy2⟩ := hV.tent ht htn
  have hy100 := hy1.1.1
  have hcy : (nI y).toNatClampNeg = y := nI_clamp (by omega)
  have hct : (nI t).toNatClampNeg = t := nI_clamp (by omega)
  unfold KV at hk0
  refine Tr.of2 (ls0 := [.ref 20, .int (nI t)]) hG mo_X2_payOf (Nat.le_of_ble_eq_true rfl) rfl ?_
  intro X hi hd hXn hXz hXf hQ
  refine wp_sound (by rw [hi]; exact ok_X2_payOf) (hd := [5, 19, 44]) 400 _ _ _ _ _ _ ?_
  simp only [wp, stp, List.mem_cons, List.not_mem_nil, Nat.reduceEqDiff, or_false, or_self, false_or, or_true, true_or, Nat.reduceAdd, ↓reduceIte, List.getElem?_cons_zero, List.getElem?_cons_succ, nthV, List.set_cons_zero, List.set_cons_succ, noL, popA, catS, Value.category, List.length_cons, List.length_nil, Nat.reduceLT, Nat.reduceLeDiff, true_and, and_true, one0, zer1, imp_t, imp_f, ofN_nI, sdead, f20, f21, not_true_eq_false, upC_ap, upC_upC, retC, fitC, isRefT, Option.toList_some, Option.toList_none, List.cons_append, List.nil_append, Nat.lt_add_one, Nat.zero_lt_succ, Nat.le_refl, Nat.add_zero, Nat.zero_add, Nat.one_ne_zero, Nat.zero_ne_one, Nat.lt_irrefl, List.length_set, fa_X2_payOf, hi, hd, hQ, mr_X2_payOf, hk0]
  try simp only [m1f]
  try simp (disch := omega) only [nmod, nI_leI, nI_ltI, nI_eq, nI_clamp, vin_nI, nI_1, fa_lit, nI_add, nI_rm3, nI_rm2, pk_rem, pk_mul, pk_sub, pk_div, nI_eM, nI_Me, nI_pM, nI_pMz, nI_pM0, M1_lt, M1_le, nI_ltM, nI_leM, i8_nI, true_and, and_true, false_implies, true_implies, not_false_eq_true, not_true_eq_false, ne_eq, implies_true, Nat.not_lt_zero, Nat.zero_le, Nat.reduceLT, Nat.reduceLeDiff, Nat.reduceEqDiff, Nat.reduceAdd, Nat.reduceMul]
  try simp only [m1u]
  refine ⟨by omega, _, t_measureKin_20 hG (by omega) hB hW hV hk ht, ?_⟩
  rintro v n1 z1 f1 ⟨rfl, hW1, ⟨fa1, ne1, hk1⟩, hF1, hn1⟩
  obtain ⟨c1, -, ya, -, -, -, -, -, -, -, -, c3, c3', -⟩ := id hW1.1
  have hk1' := hk1
  unfold KV at hk1
  refine wp_sound (by rw [hi]; exact ok_X2_payOf) (hd := [5, 19, 44]) 400 _ _ _ _ _ _ ?_
  simp only [wp, stp, List.mem_cons, List.not_mem_nil, Nat.reduceEqDiff, or_false, or_self, false_or, or_true, true_or, Nat.reduceAdd, ↓reduceIte, List.getElem?_cons_zero, List.getElem?_cons_succ, nthV, List.set_cons_zero, List.set_cons_succ, noL, popA, catS, Value.category, List.length_cons, List.length_nil, Nat.reduceLT, Nat.reduceLeDiff, true_and, and_true, one0, zer1, imp_t, imp_f, ofN_nI, sdead, f20, f21, not_true_eq_false, upC_ap, upC_upC, retC, fitC, isRefT, Option.toList_some, Option.toList_none, List.cons_append, List.nil_append, Nat.lt_add_one, Nat.zero_lt_succ, Nat.le_refl, Nat.add_zero, Nat.zero_add, Nat.one_ne_zero, Nat.zero_ne_one, Nat.lt_irrefl, List.length_set, fa_X2_payOf, hi, hd, hQ, mr_X2_payOf, hk1, c1, c3]
  try simp only [m1f]
  try simp (disch := omega) only [nmod, nI_leI, nI_ltI, nI_eq, nI_clamp, vin_nI, nI_1, fa_lit, nI_add, nI_rm3, nI_rm2, pk_rem, pk_mul, pk_sub, pk_div, nI_eM, nI_Me, nI_pM, nI_pMz, nI_pM0, M1_lt, M1_le, nI_ltM, nI_leM, i8_nI, true_and, and_true, false_implies, true_implies, not_false_eq_true, not_true_eq_false, ne_eq, implies_true, Nat.not_lt_zero, Nat.zero_le, Nat.reduceLT, Nat.reduceLeDiff, Nat.reduceEqDiff, Nat.reduceAdd, Nat.reduceMul]
  try simp only [m1u]
  rw [c3' t ht, hy2]
  refine ⟨by omega, by omega, _, t_measureAt_20 hG (by omega) hB hW1 hV hk1' (mnF_le _ _) (by omega) hy1, ?_⟩
  rintro v n2 z2 f2 ⟨rfl, hW2, hk2, hF2, hn2⟩
  obtain ⟨c1, -, ya, -, -, -, -, -, -, -, -, c3, c3', -⟩ := id hW2.1
  have hk2' := hk2
  unfold KV at hk2
  refine wp_sound (by rw [hi]; exact ok_X2_payOf) (hd := [5, 19, 44]) 400 _ _ _ _ _ _ ?_
  simp only [wp, stp, List.mem_cons, List.not_mem_nil, Nat.reduceEqDiff, or_false, or_self, false_or, or_true, true_or, Nat.reduceAdd, ↓reduceIte, List.getElem?_cons_zero, List.getElem?_cons_succ, nthV, List.set_cons_zero, List.set_cons_succ, noL, popA, catS, Value.category, List.length_cons, List.length_nil, Nat.reduceLT, Nat.reduceLeDiff, true_and, and_true, one0, zer1, imp_t, imp_f, ofN_nI, sdead, f20, f21, not_true_eq_false, upC_ap, upC_upC, retC, fitC, isRefT, Option.toList_some, Option.toList_none, List.cons_append, List.nil_append, Nat.lt_add_one, Nat.zero_lt_succ, Nat.le_refl, Nat.add_zero, Nat.zero_add, Nat.one_ne_zero, Nat.zero_ne_one, Nat.lt_irrefl, List.length_set, fa_X2_payOf, hi, hd, hQ, mr_X2_payOf, hk2, c1, c3]
  try simp only [m1f]
  try simp (disch := omega) only [nmod, nI_leI, nI_ltI, nI_eq, nI_clamp, vin_nI, nI_1, fa_lit, nI_add, nI_rm3, nI_rm2, pk_rem, pk_mul, pk_sub, pk_div, nI_eM, nI_Me, nI_pM, nI_pMz, nI_pM0, M1_lt, M1_le, nI_ltM, nI_leM, i8_nI, true_and, and_true, false_implies, true_implies, not_false_eq_true, not_true_eq_false, ne_eq, implies_true, Nat.not_lt_zero, Nat.zero_le, Nat.reduceLT, Nat.reduceLeDiff, Nat.reduceEqDiff, Nat.reduceAdd, Nat.reduceMul]
  try simp only [m1u]
  rw [c3' t ht, hy2]
  obtain ⟨F, hF⟩ : ∃ F, f2 21 = cI 8 F := hW2.2.2.2.2.1.2
  have h1 : neA S 1 t y ≤ _ := cnt1_le _ _
  have h2 : knN S t ≤ _ := cnt1_le _ _
  have h3 : fkN S 1 t ≤ 99 := mnF_le _ _
  refine ⟨by omega, by omega, _, t_payFor_20 hG (by omega) hB hW2.1 hW2.2.2.2.1 hk2' hF hy1.1 (by show min (fkN S 1 t) (faA S 1 t y) < 1000; omega) (by show neA S 1 t y < 1000; omega) (by omega), ?_⟩
  rintro v n3 z3 f3 ⟨rfl, rfl, rfl, F', rfl⟩
  refine wp_sound (by rw [hi]; exact ok_X2_payOf) (hd := [5, 19, 44]) 400 _ _ _ _ _ _ ?_
  simp only [wp, stp, List.mem_cons, List.not_mem_nil, Nat.reduceEqDiff, or_false, or_self, false_or, or_true, true_or, Nat.reduceAdd, ↓reduceIte, List.getElem?_cons_zero, List.getElem?_cons_succ, nthV, List.set_cons_zero, List.set_cons_succ, noL, popA, catS, Value.category, List.length_cons, List.length_nil, Nat.reduceLT, Nat.reduceLeDiff, true_and, and_true, one0, zer1, imp_t, imp_f, ofN_nI, sdead, f20, f21, not_true_eq_false, upC_ap, upC_upC, retC, fitC, isRefT, Option.toList_some, Option.toList_none, List.cons_append, List.nil_append, Nat.lt_add_one, Nat.zero_lt_succ, Nat.le_refl, Nat.add_zero, Nat.zero_add, Nat.one_ne_zero, Nat.zero_ne_one, Nat.lt_irrefl, List.length_set, fa_X2_payOf, hi, hd, hQ, mr_X2_payOf]
  try simp only [m1f]
  try simp (disch := omega) only [nmod, nI_leI, nI_ltI, nI_eq, nI_clamp, vin_nI, nI_1, fa_lit, nI_add, nI_rm3, nI_rm2, pk_rem, pk_mul, pk_sub, pk_div, nI_eM, nI_Me, nI_pM, nI_pMz, nI_pM0, M1_lt, M1_le, nI_ltM, nI_leM, i8_nI, true_and, and_true, false_implies, true_implies, not_false_eq_true, not_true_eq_false, ne_eq, implies_true, Nat.not_lt_zero, Nat.zero_le, Nat.reduceLT, Nat.reduceLeDiff, Nat.reduceEqDiff, Nat.reduceAdd, Nat.reduceMul]
  try simp only [m1u]
  refine ⟨by rw [pyN, hy2, hcy]; rfl, hW2.facts_20 F', ⟨_, _, _, _, by unfold KV; rw [upC_ne _ _ (by omega)]; exact hk2⟩, ((FRM.trans hF1 hn1 hF2).mono (fun x hx => by simp at hx ⊢; omega)).up (by omega) (by simp), by omega⟩
theorem CW.king_22 {n z : Nat} {f : Mf} (h : CW S L lp N Z K f n z) (a b c d e : Int32) : CW S L lp N Z K (upC f 22 (cO 2 [.ref 16, .int a, .ref 1, .ref 23, .int b, .int c, .int d, .int e])) n z := by
  obtain ⟨⟨-, F, hF⟩, ⟨-, F', hF'⟩⟩ := And.intro h.2.2.2.2.1 h.2.2.2.2.2.1
  refine h.off (fun x hx => upC_ne _ _ (by omega)) (fun x hx => upC_ne _ _ (by omega)) ?_ ?_
  · exact h.2.2.2.2.1.cong (upC_ne _ _ (by omega)) (upC_ne _ _ (by omega))
  · exact ⟨⟨_, _, _, _, _, upC_self _ _ _⟩, F', by rw [upC_ne _ _ (by omega)]; exact hF'⟩
theorem CW.facts_22 {n z : Nat} {f : Mf} (h : CW S L lp N Z K f n z) (F : Nat → Int32) : CW S L lp N Z K (upC f 23 (cI 8 F)) n z := by
  obtain ⟨⟨⟨a, b, c, d, e, hk⟩, -⟩, ⟨⟨a', b', c', d', e', hk'⟩, -⟩⟩ := And.intro h.2.2.2.2.1 h.2.2.2.2.2.1
  refine h.off (fun x hx => upC_ne _ _ (by omega)) (fun x hx => upC_ne _ _ (by omega)) ?_ ?_
  · exact h.2.2.2.2.1.cong (upC_ne _ _ (by omega)) (upC_ne _ _ (by omega))
  · exact ⟨⟨a', b', c', d', e', by unfold KV at *; rw [upC_ne _ _ (by omega)]; exact hk'⟩, F, upC_self _ _ _⟩
theorem t_payFor_22 (hG : Ok G) (hd1 : 2 ≤ d) (hB : Bd S) (hC : CR S lp f) (hL : LawA f n lp L) {bY kn fk fa0 ne0 : Int32} (hk : KV 22 16 f bY kn fk fa0 ne0) {F0 : Nat → Int32} (hF : f 23 = cI 8 F0) (hc : c < 100 ∧ c % 10 < wdt S ∧ c / 10 < hgt S) {fa ne ki : Nat} (hfa : fa < 1000) (hne : ne < 1000) (hki : ki < 1000) : Tr G d 39 [.ref 22, .int (nI c), .int (nI fa), .int (nI ne), .int (nI ki)] n z f (fun v n' z' f' => v = some (.int (nI (payF S L c fa ne ki))) ∧ n' = n ∧ z' = z ∧ ∃ F, f' = upC f 23 (cI 8 F)) := by
  have c1 := hC.1
  obtain ⟨-, -, wd, ht, e0, e1, hw1, hw2, hh1, hh2⟩ := id hB
  have ewd : wdt S = wd := by rw [wdt, e0, nI_clamp (by omega)]
  have eht : hgt S = ht := by rw [hgt, e1, nI_clamp (by omega)]
  obtain ⟨hc1, hc2, hc3⟩ := id hc
  obtain ⟨sp, m, st, kd, vl, ⟨l1, l2⟩, ⟨l3, l4⟩, l5, l6, l7, l8⟩ := hL
  have hed := edN_le S c
  have elp : (lp = 23) = False := eq_false (by omega)
  unfold KV at hk
  refine Tr.of2 (ls0 := [.ref 22, .int (nI c), .int (nI fa), .int (nI ne), .int (nI ki), dead, dead, dead, dead]) hG mo_X2_payFor (Nat.le_of_ble_eq_true rfl) rfl ?_
  intro X hi hd hXn hXz hXf hQ
  have h180 : ∀ h F, h < 10000 → h = cmN (L.2.2 (fcF S c fa ne ki)) → V G X 180 [.ref 22, .int (nI c), .int (nI fa), .int (nI ne), .int (nI ki), .int (nI (c % 10)), .int (nI (c / 10)), .int (nI (edN S c)), .int (nI h)] [] n z (upC f 23 (cI 8 F)) := by
    intro h F hh he
    refine wp_sound (by rw [hi]; exact ok_X2_payFor) (hd := [107, 172]) 400 _ _ _ _ _ _ ?_
    simp only [wp, stp, List.mem_cons, List.not_mem_nil, Nat.reduceEqDiff, or_false, or_self, false_or, or_true, true_or, Nat.reduceAdd, ↓reduceIte, List.getElem?_cons_zero, List.getElem?_cons_succ, nthV, List.set_cons_zero, List.set_cons_succ, noL, popA, catS, Value.category, List.length_cons, List.length_nil, Nat.reduceLT, Nat.reduceLeDiff, true_and, and_true, one0, zer1, imp_t, imp_f, ofN_nI, sdead, f20, f21, not_true_eq_false, upC_ap, upC_upC, retC, fitC, isRefT, Option.toList_some, Option.toList_none, List.cons_append, List.nil_append, Nat.lt_add_one, Nat.zero_lt_succ, Nat.le_refl, Nat.add_zero, Nat.zero_add, Nat.one_ne_zero, Nat.zero_ne_one, Nat.lt_irrefl, List.length_set, fa_X2_payFor, hi, hd, hQ, mr_X2_payFor]
    try simp only [m1f]
    try simp (disch := omega) only [nmod, nI_leI, nI_ltI, nI_eq, nI_clamp, vin_nI, nI_1, fa_lit, nI_add, nI_rm3, nI_rm2, pk_rem, pk_mul, pk_sub, pk_div, nI_eM, nI_Me, nI_pM, nI_pMz, nI_pM0, M1_lt, M1_le, nI_ltM, nI_leM, i8_nI, true_and, and_true, false_implies, true_implies, not_false_eq_true, not_true_eq_false, ne_eq, implies_true, Nat.not_lt_zero, Nat.zero_le, Nat.reduceLT, Nat.reduceLeDiff, Nat.reduceEqDiff, Nat.reduceAdd, Nat.reduceMul]
    try simp only [m1u]
    refine ⟨by rw [payF, ← he], F, rfl⟩
  have h79 : V G X 79 [.ref 22, .int (nI c), .int (nI fa), .int (nI ne), .int (nI ki), .int (nI (c % 10)), .int (nI (c / 10)), .int (nI (edN S c)), dead] [] n z f := by
    refine wp_sound (by rw [hi]; exact ok_X2_payFor) (hd := [107, 172]) 400 _ _ _ _ _ _ ?_
    simp only [wp, stp, List.mem_cons, List.not_mem_nil, Nat.reduceEqDiff, or_false, or_self, false_or, or_true, true_or, Nat.reduceAdd, ↓reduceIte, List.getElem?_cons_zero, List.getElem?_cons_succ, nthV, List.set_cons_zero, List.set_cons_succ, noL, popA, catS, Value.category, List.length_cons, List.length_nil, Nat.reduceLT, Nat.reduceLeDiff, true_and, and_true, one0, zer1, imp_t, imp_f, ofN_nI, sdead, f20, f21, not_true_eq_false, upC_ap, upC_upC, retC, fitC, isRefT, Option.toList_some, Option.toList_none, List.cons_append, List.nil_append, Nat.lt_add_one, Nat.zero_lt_succ, Nat.le_refl, Nat.add_zero, Nat.zero_add, Nat.one_ne_zero, Nat.zero_ne_one, Nat.lt_irrefl, List.length_set, fa_X2_payFor, hi, hd, hQ, mr_X2_payFor, hk, hF, c1]
    try simp only [m1f]
    try simp (disch := omega) only [nmod, nI_leI, nI_ltI, nI_eq, nI_clamp, vin_nI, nI_1, fa_lit, nI_add, nI_rm3, nI_rm2, pk_rem, pk_mul, pk_sub, pk_div, nI_eM, nI_Me, nI_pM, nI_pMz, nI_pM0, M1_lt, M1_le, nI_ltM, nI_leM, i8_nI, true_and, and_true, false_implies, true_implies, not_false_eq_true, not_true_eq_false, ne_eq, implies_true, Nat.not_lt_zero, Nat.zero_le, Nat.reduceLT, Nat.reduceLeDiff, Nat.reduceEqDiff, Nat.reduceAdd, Nat.reduceMul]
    try simp only [m1u]
    refine ⟨by omega, _, t_waterBeside hG (hC.off (fun k _ _ => upC_ne _ _ (by omega))) hB hc, ?_⟩
    rintro v n' z' f' ⟨rfl, rfl, rfl, rfl⟩
    refine wp_sound (by rw [hi]; exact ok_X2_payFor) (hd := [107, 172, 180]) 400 _ _ _ _ _ _ ?_
    simp only [wp, stp, List.mem_cons, List.not_mem_nil, Nat.reduceEqDiff, or_false, or_self, false_or, or_true, true_or, Nat.reduceAdd, ↓reduceIte, List.getElem?_cons_zero, List.getElem?_cons_succ, nthV, List.set_cons_zero, List.set_cons_succ, noL, popA, catS, Value.category, List.length_cons, List.length_nil, Nat.reduceLT, Nat.reduceLeDiff, true_and, and_true, one0, zer1, imp_t, imp_f, ofN_nI, sdead, f20, f21, not_true_eq_false, upC_ap, upC_upC, retC, fitC, isRefT, Option.toList_some, Option.toList_none, List.cons_append, List.nil_append, Nat.lt_add_one, Nat.zero_lt_succ, Nat.le_refl, Nat.add_zero, Nat.zero_add, Nat.one_ne_zero, Nat.zero_ne_one, Nat.lt_irrefl, List.length_set, fa_X2_payFor, hi, hd, hQ, mr_X2_payFor, hk, hF, c1, l5, elp]
    try simp only [m1f]
    try simp (disch := omega) only [nmod, nI_leI, nI_ltI, nI_eq, nI_clamp, vin_nI, nI_1, fa_lit, nI_add, nI_rm3, nI_rm2, pk_rem, pk_mul, pk_sub, pk_div, nI_eM, nI_Me, nI_pM, nI_pMz, nI_pM0, M1_lt, M1_le, nI_ltM, nI_leM, i8_nI, true_and, and_true, false_implies, true_implies, not_false_eq_true, not_true_eq_false, ne_eq, implies_true, Nat.not_lt_zero, Nat.zero_le, Nat.reduceLT, Nat.reduceLeDiff, Nat.reduceEqDiff, Nat.reduceAdd, Nat.reduceMul]
    try simp only [m1u]
    refine ⟨by omega, _, t_amount hG (by omega) (by rw [upC_ne _ _ (by omega)]; exact l5) (by rw [upC_ne _ _ (by omega)]; exact l6) (upC_self _ _ _) l7, ?_⟩
    rintro v n' z' f' ⟨rfl, rfl, rfl, rfl⟩
    rw [l8 _ (fcF S c fa ne ki) (fun j hj => by
      rcases (by omega : j = 0 ∨ j = 1 ∨ j = 2 ∨ j = 3 ∨ j = 4 ∨ j = 5 ∨ j = 6 ∨ j = 7) with rfl | rfl | rfl | rfl | rfl | rfl | rfl | rfl <;> rfl)]
    refine wp_sound (by rw [hi]; exact ok_X2_payFor) (hd := [107, 172, 180]) 400 _ _ _ _ _ _ ?_
    simp only [wp, stp, List.mem_cons, List.not_mem_nil, Nat.reduceEqDiff, or_false, or_self, false_or, or_true, true_or, Nat.reduceAdd, ↓reduceIte, List.getElem?_cons_zero, List.getElem?_cons_succ, nthV, List.set_cons_zero, List.set_cons_succ, noL, popA, catS, Value.category, List.length_cons, List.length_nil, Nat.reduceLT, Nat.reduceLeDiff, true_and, and_true, one0, zer1, imp_t, imp_f, ofN_nI, sdead, f20, f21, not_true_eq_false, upC_ap, upC_upC, retC, fitC, isRefT, Option.toList_some, Option.toList_none, List.cons_append, List.nil_append, Nat.lt_add_one, Nat.zero_lt_succ, Nat.le_refl, Nat.add_zero, Nat.zero_add, Nat.one_ne_zero, Nat.zero_ne_one, Nat.lt_irrefl, List.length_set, fa_X2_payFor, hi, hd, hQ, mr_X2_payFor, hk, hF, c1]
    rw [cmN_nI]
    refine ⟨by omega, by omega, h180 _ _ ?_ rfl⟩
    have := (cmN_spec (L.2.2 (fcF S c fa ne ki))).1
    omega
  have h75 : ∀ a b e : Nat, a ≤ 2 → b ≤ 2 → e ≤ 2 → e + (b + a) = edN S c → V G X 75 [.ref 22, .int (nI c), .int (nI fa), .int (nI ne), .int (nI ki), .int (nI (c % 10)), .int (nI (c / 10)), .int (nI e), dead] [.int (nI a), .int (nI b), .int (nI e)] n z f := by
    intro a b e ha hb he h
    refine wp_sound (by rw [hi]; exact ok_X2_payFor) (hd := [79, 107, 172]) 400 _ _ _ _ _ _ ?_
    simp only [wp, stp, List.mem_cons, List.not_mem_nil, Nat.reduceEqDiff, or_false, or_self, false_or, or_true, true_or, Nat.reduceAdd, ↓reduceIte, List.getElem?_cons_zero, List.getElem?_cons_succ, nthV, List.set_cons_zero, List.set_cons_succ, noL, popA, catS, Value.category, List.length_cons, List.length_nil, Nat.reduceLT, Nat.reduceLeDiff, true_and, and_true, one0, zer1, imp_t, imp_f, ofN_nI, sdead, f20, f21, not_true_eq_false, upC_ap, upC_upC, retC, fitC, isRefT, Option.toList_some, Option.toList_none, List.cons_append, List.nil_append, Nat.lt_add_one, Nat.zero_lt_succ, Nat.le_refl, Nat.add_zero, Nat.zero_add, Nat.one_ne_zero, Nat.zero_ne_one, Nat.lt_irrefl, List.length_set, fa_X2_payFor, hi, hd, hQ, mr_X2_payFor, hk, hF, c1]
    try simp only [m1f]
    try simp (disch := omega) only [nmod, nI_leI, nI_ltI, nI_eq, nI_clamp, vin_nI, nI_1, fa_lit, nI_add, nI_rm3, nI_rm2, pk_rem, pk_mul, pk_sub, pk_div, nI_eM, nI_Me, nI_pM, nI_pMz, nI_pM0, M1_lt, M1_le, nI_ltM, nI_leM, i8_nI, true_and, and_true, false_implies, true_implies, not_false_eq_true, not_true_eq_false, ne_eq, implies_true, Nat.not_lt_zero, Nat.zero_le, Nat.reduceLT, Nat.reduceLeDiff, Nat.reduceEqDiff, Nat.reduceAdd, Nat.reduceMul]
    try simp only [m1u]
    rw [h]
    exact h79
  have h56 : ∀ b e : Nat, b ≤ 2 → e ≤ 2 → e + (b + (if c / 10 + 1 = hgt S then 1 else 0)) = edN S c → V G X 56 [.ref 22, .int (nI c), .int (nI fa), .int (nI ne), .int (nI ki), .int (nI (c % 10)), .int (nI (c / 10)), .int (nI e), dead] [.int (nI b), .int (nI e)] n z f := by
    intro b e hb he h
    rw [eht] at h
    refine wp_sound (by rw [hi]; exact ok_X2_payFor) (hd := [75, 107, 172]) 400 _ _ _ _ _ _ ?_
    simp only [wp, stp, List.mem_cons, List.not_mem_nil, Nat.reduceEqDiff, or_false, or_self, false_or, or_true, true_or, Nat.reduceAdd, ↓reduceIte, List.getElem?_cons_zero, List.getElem?_cons_succ, nthV, List.set_cons_zero, List.set_cons_succ, noL, popA, catS, Value.category, List.length_cons, List.length_nil, Nat.reduceLT, Nat.reduceLeDiff, true_and, and_true, one0, zer1, imp_t, imp_f, ofN_nI, sdead, f20, f21, not_true_eq_false, upC_ap, upC_upC, retC, fitC, isRefT, Option.toList_some, Option.toList_none, List.cons_append, List.nil_append, Nat.lt_add_one, Nat.zero_lt_succ, Nat.le_refl, Nat.add_zero, Nat.zero_add, Nat.one_ne_zero, Nat.zero_ne_one, Nat.lt_irrefl, List.length_set, fa_X2_payFor, hi, hd, hQ, mr_X2_payFor, hk, hF, c1, e0, e1]
    try simp only [m1f]
    try simp (disch := omega) only [nmod, nI_leI, nI_ltI, nI_eq, nI_clamp, vin_nI, nI_1, fa_lit, nI_add, nI_rm3, nI_rm2, pk_rem, pk_mul, pk_sub, pk_div, nI_eM, nI_Me, nI_pM, nI_pMz, nI_pM0, M1_lt, M1_le, nI_ltM, nI_leM, i8_nI, true_and, and_true, false_implies, true_implies, not_false_eq_true, not_true_eq_false, ne_eq, implies_true, Nat.not_lt_zero, Nat.zero_le, Nat.reduceLT, Nat.reduceLeDiff, Nat.reduceEqDiff, Nat.reduceAdd, Nat.reduceMul]
    try simp only [m1u]
    exact ⟨fun q => h75 _ _ _ (by omega) hb he (by rw [← h, if_neg (by omega)]), fun q => h75 _ _ _ (by omega) hb he (by rw [← h, if_pos (by omega)])⟩
  have h41 : ∀ a b : Nat, a ≤ 1 → b ≤ 1 → b + a = (if c % 10 = 0 then 1 else 0) + (if c % 10 + 1 = wdt S then 1 else 0) → V G X 41 [.ref 22, .int (nI c), .int (nI fa), .int (nI ne), .int (nI ki), .int (nI (c % 10)), .int (nI (c / 10)), dead, dead] [.int (nI a), .int (nI b)] n z f := by
    intro a b ha hb h
    refine wp_sound (by rw [hi]; exact ok_X2_payFor) (hd := [56, 107, 172]) 400 _ _ _ _ _ _ ?_
    simp only [wp, stp, List.mem_cons, List.not_mem_nil, Nat.reduceEqDiff, or_false, or_self, false_or, or_true, true_or, Nat.reduceAdd, ↓reduceIte, List.getElem?_cons_zero, List.getElem?_cons_succ, nthV, List.set_cons_zero, List.set_cons_succ, noL, popA, catS, Value.category, List.length_cons, List.length_nil, Nat.reduceLT, Nat.reduceLeDiff, true_and, and_true, one0, zer1, imp_t, imp_f, ofN_nI, sdead, f20, f21, not_true_eq_false, upC_ap, upC_upC, retC, fitC, isRefT, Option.toList_some, Option.toList_none, List.cons_append, List.nil_append, Nat.lt_add_one, Nat.zero_lt_succ, Nat.le_refl, Nat.add_zero, Nat.zero_add, Nat.one_ne_zero, Nat.zero_ne_one, Nat.lt_irrefl, List.length_set, fa_X2_payFor, hi, hd, hQ, mr_X2_payFor, hk, hF, c1, e0, e1]
    try simp only [m1f]
    try simp (disch := omega) only [nmod, nI_leI, nI_ltI, nI_eq, nI_clamp, vin_nI, nI_1, fa_lit, nI_add, nI_rm3, nI_rm2, pk_rem, pk_mul, pk_sub, pk_div, nI_eM, nI_Me, nI_pM, nI_pMz, nI_pM0, M1_lt, M1_le, nI_ltM, nI_leM, i8_nI, true_and, and_true, false_implies, true_implies, not_false_eq_true, not_true_eq_false, ne_eq, implies_true, Nat.not_lt_zero, Nat.zero_le, Nat.reduceLT, Nat.reduceLeDiff, Nat.reduceEqDiff, Nat.reduceAdd, Nat.reduceMul]
    try simp only [m1u]
    exact ⟨fun q => h56 _ _ (by omega) (by omega) (by rw [edN, h, if_neg (show ¬ c / 10 = 0 by omega)]), fun q => h56 _ _ (by omega) (by omega) (by rw [edN, h, if_pos (show c / 10 = 0 by omega)])⟩
  have h22 : ∀ b : Nat, b ≤ 1 → b = (if c % 10 = 0 then 1 else 0) → V G X 22 [.ref 22, .int (nI c), .int (nI fa), .int (nI ne), .int (nI ki), .int (nI (c % 10)), .int (nI (c / 10)), dead, dead] [.int (nI b)] n z f := by
    intro b hb h
    refine wp_sound (by rw [hi]; exact ok_X2_payFor) (hd := [41, 107, 172]) 400 _ _ _ _ _ _ ?_
    simp only [wp, stp, List.mem_cons, List.not_mem_nil, Nat.reduceEqDiff, or_false, or_self, false_or, or_true, true_or, Nat.reduceAdd, ↓reduceIte, List.getElem?_cons_zero, List.getElem?_cons_succ, nthV, List.set_cons_zero, List.set_cons_succ, noL, popA, catS, Value.category, List.length_cons, List.length_nil, Nat.reduceLT, Nat.reduceLeDiff, true_and, and_true, one0, zer1, imp_t, imp_f, ofN_nI, sdead, f20, f21, not_true_eq_false, upC_ap, upC_upC, retC, fitC, isRefT, Option.toList_some, Option.toList_none, List.cons_append, List.nil_append, Nat.lt_add_one, Nat.zero_lt_succ, Nat.le_refl, Nat.add_zero, Nat.zero_add, Nat.one_ne_zero, Nat.zero_ne_one, Nat.lt_irrefl, List.length_set, fa_X2_payFor, hi, hd, hQ, mr_X2_payFor, hk, hF, c1, e0, e1]
    try simp only [m1f]
    try simp (disch := omega) only [nmod, nI_leI, nI_ltI, nI_eq, nI_clamp, vin_nI, nI_1, fa_lit, nI_add, nI_rm3, nI_rm2, pk_rem, pk_mul, pk_sub, pk_div, nI_eM, nI_Me, nI_pM, nI_pMz, nI_pM0, M1_lt, M1_le, nI_ltM, nI_leM, i8_nI, true_and, and_true, false_implies, true_implies, not_false_eq_true, not_true_eq_false, ne_eq, implies_true, Nat.not_lt_zero, Nat.zero_le, Nat.reduceLT, Nat.reduceLeDiff, Nat.reduceEqDiff, Nat.reduceAdd, Nat.reduceMul]
    try simp only [m1u]
    exact ⟨fun q => h41 _ _ (by omega) hb (by rw [← h, if_neg (by omega)]), fun q => h41 _ _ (by omega) hb (by rw [← h, if_pos (by omega)])⟩
  refine wp_sound (by rw [hi]; exact ok_X2_payFor) (hd := [22, 107, 172]) 400 _ _ _ _ _ _ ?_
  simp only [wp, stp, List.mem_cons, List.not_mem_nil, Nat.reduceEqDiff, or_false, or_self, false_or, or_true, true_or, Nat.reduceAdd, ↓reduceIte, List.getElem?_cons_zero, List.getElem?_cons_succ, nthV, List.set_cons_zero, List.set_cons_succ, noL, popA, catS, Value.category, List.length_cons, List.length_nil, Nat.reduceLT, Nat.reduceLeDiff, true_and, and_true, one0, zer1, imp_t, imp_f, ofN_nI, sdead, f20, f21, not_true_eq_false, upC_ap, upC_upC, retC, fitC, isRefT, Option.toList_some, Option.toList_none, List.cons_append, List.nil_append, Nat.lt_add_one, Nat.zero_lt_succ, Nat.le_refl, Nat.add_zero, Nat.zero_add, Nat.one_ne_zero, Nat.zero_ne_one, Nat.lt_irrefl, List.length_set, fa_X2_payFor, hi, hd, hQ, mr_X2_payFor, hk, hF, c1, e0, e1]
  try simp only [m1f]
  try simp (disch := omega) only [nmod, nI_leI, nI_ltI, nI_eq, nI_clamp, vin_nI, nI_1, fa_lit, nI_add, nI_rm3, nI_rm2, pk_rem, pk_mul, pk_sub, pk_div, nI_eM, nI_Me, nI_pM, nI_pMz, nI_pM0, M1_lt, M1_le, nI_ltM, nI_leM, i8_nI, true_and, and_true, false_implies, true_implies, not_false_eq_true, not_true_eq_false, ne_eq, implies_true, Nat.not_lt_zero, Nat.zero_le, Nat.reduceLT, Nat.reduceLeDiff, Nat.reduceEqDiff, Nat.reduceAdd, Nat.reduceMul]
  try simp only [m1u]
  exact ⟨fun q => h22 _ (by omega) (by rw [if_neg (by omega)]), fun q => h22 _ (by omega) (by rw [if_pos (by omega)])⟩
theorem t_measureKin_22 (hG : Ok G) (hd1 : 3 ≤ d) (hB : Bd S) (hW : CW S L lp N Z K f n z) (hV : VB S) {bY : Int32} (hk : KB 22 16 f bY) (ht : t < tn S) : Tr G d 43 [.ref 22, .int (nI t)] n z f (fun v n' z' f' => v = none ∧ CW S L lp N Z K f' n' z' ∧ (∃ fa ne, KV 22 16 f' bY (nI (knN S t)) (nI (fkN S 0 t)) fa ne) ∧ FRM [ 17, 18, 19, 22 ] f n f' ∧ n ≤ n') := by
  obtain ⟨kn0, fk0, fa0, ne0, hk⟩ := hk
  obtain ⟨⟨b1, b2⟩, ⟨-, b4⟩, -⟩ := id hB
  refine Tr.of2 (ls0 := [.ref 22, .int (nI t), dead]) hG mo_X2_measureKin (Nat.le_of_ble_eq_true rfl) rfl ?_
  intro X hi hd hXn hXz hXf hQ
  have loop : ∀ k' o n' z' g fa ne, o + k' = tn S → CW S L lp N Z K g n' z' → KV 22 16 g bY (nI (cnt1 (fun o => kiS S o t) o)) (nI (mnF (fkF S 0 t) o)) fa ne → FRM [ 17, 18, 19, 22 ] f n g → n ≤ n' → V G X 13 [.ref 22, .int (nI t), .int (nI o)] [] n' z' g := by
    intro k'
    induction k' with
    | zero =>
      intro o n' z' g fa ne ho hW' hk' hF' hn'
      have c1 := hW'.1.1
      unfold KV at hk'
      have : o = tn S := by omega
      subst this
      refine wp_sound (by rw [hi]; exact ok_X2_measureKin) (hd := [13, 33, 60]) 400 _ _ _ _ _ _ ?_
      simp only [wp, stp, List.mem_cons, List.not_mem_nil, Nat.reduceEqDiff, or_false, or_self, false_or, or_true, true_or, Nat.reduceAdd, ↓reduceIte, List.getElem?_cons_zero, List.getElem?_cons_succ, nthV, List.set_cons_zero, List.set_cons_succ, noL, popA, catS, Value.category, List.length_cons, List.length_nil, Nat.reduceLT, Nat.reduceLeDiff, true_and, and_true, one0, zer1, imp_t, imp_f, ofN_nI, sdead, f20, f21, not_true_eq_false, upC_ap, upC_upC, retC, fitC, isRefT, Option.toList_some, Option.toList_none, List.cons_append, List.nil_append, Nat.lt_add_one, Nat.zero_lt_succ, Nat.le_refl, Nat.add_zero, Nat.zero_add, Nat.one_ne_zero, Nat.zero_ne_one, Nat.lt_irrefl, List.length_set, fa_X2_measureKin, hi, hd, hQ, mr_X2_measureKin, hk', c1, b1]
      try simp only [m1f]
      try simp (disch := omega) only [nmod, nI_leI, nI_ltI, nI_eq, nI_clamp, vin_nI, nI_1, fa_lit, nI_add, nI_rm3, nI_rm2, pk_rem, pk_mul, pk_sub, pk_div, nI_eM, nI_Me, nI_pM, nI_pMz, nI_pM0, M1_lt, M1_le, nI_ltM, nI_leM, i8_nI, true_and, and_true, false_implies, true_implies, not_false_eq_true, not_true_eq_false, ne_eq, implies_true, Nat.not_lt_zero, Nat.zero_le, Nat.reduceLT, Nat.reduceLeDiff, Nat.reduceEqDiff, Nat.reduceAdd, Nat.reduceMul]
      try simp only [m1u]
      exact ⟨fun _ => ⟨hW', ⟨fa, ne, hk'⟩, hF', hn'⟩, fun h => absurd (Nat.le_refl _) h⟩
    | succ k' ih =>
      intro o n' z' g fa ne ho hW' hk' hF' hn'
      obtain ⟨c1, -, ya, -, -, -, -, -, -, -, -, c3, c3', -⟩ := id hW'.1
      have hcl := cnt1_le (fun o => kiS S o t) o
      have hk2 := hk'
      unfold KV at hk'
      refine wp_sound (by rw [hi]; exact ok_X2_measureKin) (hd := [13, 33, 60, 68]) 400 _ _ _ _ _ _ ?_
      simp only [wp, stp, List.mem_cons, List.not_mem_nil, Nat.reduceEqDiff, or_false, or_self, false_or, or_true, true_or, Nat.reduceAdd, ↓reduceIte, List.getElem?_cons_zero, List.getElem?_cons_succ, nthV, List.set_cons_zero, List.set_cons_succ, noL, popA, catS, Value.category, List.length_cons, List.length_nil, Nat.reduceLT, Nat.reduceLeDiff, true_and, and_true, one0, zer1, imp_t, imp_f, ofN_nI, sdead, f20, f21, not_true_eq_false, upC_ap, upC_upC, retC, fitC, isRefT, Option.toList_some, Option.toList_none, List.cons_append, List.nil_append, Nat.lt_add_one, Nat.zero_lt_succ, Nat.le_refl, Nat.add_zero, Nat.zero_add, Nat.one_ne_zero, Nat.zero_ne_one, Nat.lt_irrefl, List.length_set, fa_X2_measureKin, hi, hd, hQ, mr_X2_measureKin, hk', c1, b1]
      try simp only [m1f]
      try simp (disch := omega) only [nmod, nI_leI, nI_ltI, nI_eq, nI_clamp, vin_nI, nI_1, fa_lit, nI_add, nI_rm3, nI_rm2, pk_rem, pk_mul, pk_sub, pk_div, nI_eM, nI_Me, nI_pM, nI_pMz, nI_pM0, M1_lt, M1_le, nI_ltM, nI_leM, i8_nI, true_and, and_true, false_implies, true_implies, not_false_eq_true, not_true_eq_false, ne_eq, implies_true, Nat.not_lt_zero, Nat.zero_le, Nat.reduceLT, Nat.reduceLeDiff, Nat.reduceEqDiff, Nat.reduceAdd, Nat.reduceMul]
      try simp only [m1u]
      refine ⟨fun h => absurd h (by omega), fun _ => ⟨by omega, _, t_areKin hG hW'.1 hB (by omega) (by omega), ?_⟩⟩
      rintro v n1 z1 f1 ⟨rfl, rfl, rfl, rfl⟩
      have h68 : ∀ n' z' g fa ne, CW S L lp N Z K g n' z' → KV 22 16 g bY (nI (cnt1 (fun o => kiS S o t) (o + 1))) (nI (mnF (fkF S 0 t) (o + 1))) fa ne → FRM [ 17, 18, 19, 22 ] f n g → n ≤ n' → V G X 68 [.ref 22, .int (nI t), .int (nI o)] [] n' z' g := by
        intro n' z' g fa ne q1 q2 q3 q4
        refine wp_sound (by rw [hi]; exact ok_X2_measureKin) (hd := [13, 33, 60]) 400 _ _ _ _ _ _ ?_
        simp only [wp, stp, List.mem_cons, List.not_mem_nil, Nat.reduceEqDiff, or_false, or_self, false_or, or_true, true_or, Nat.reduceAdd, ↓reduceIte, List.getElem?_cons_zero, List.getElem?_cons_succ, nthV, List.set_cons_zero, List.set_cons_succ, noL, popA, catS, Value.category, List.length_cons, List.length_nil, Nat.reduceLT, Nat.reduceLeDiff, true_and, and_true, one0, zer1, imp_t, imp_f, ofN_nI, sdead, f20, f21, not_true_eq_false, upC_ap, upC_upC, retC, fitC, isRefT, Option.toList_some, Option.toList_none, List.cons_append, List.nil_append, Nat.lt_add_one, Nat.zero_lt_succ, Nat.le_refl, Nat.add_zero, Nat.zero_add, Nat.one_ne_zero, Nat.zero_ne_one, Nat.lt_irrefl, List.length_set, fa_X2_measureKin, hi, hd, hQ, mr_X2_measureKin]
        try simp only [m1f]
        try simp (disch := omega) only [nmod, nI_leI, nI_ltI, nI_eq, nI_clamp, vin_nI, nI_1, fa_lit, nI_add, nI_rm3, nI_rm2, pk_rem, pk_mul, pk_sub, pk_div, nI_eM, nI_Me, nI_pM, nI_pMz, nI_pM0, M1_lt, M1_le, nI_ltM, nI_leM, i8_nI, true_and, and_true, false_implies, true_implies, not_false_eq_true, not_true_eq_false, ne_eq, implies_true, Nat.not_lt_zero, Nat.zero_le, Nat.reduceLT, Nat.reduceLeDiff, Nat.reduceEqDiff, Nat.reduceAdd, Nat.reduceMul]
        try simp only [m1u]
        exact ih (o + 1) n' z' g fa ne (by omega) q1 q2 q3 q4
      refine wp_sound (by rw [hi]; exact ok_X2_measureKin) (hd := [13, 33, 60, 68]) 400 _ _ _ _ _ _ ?_
      simp only [wp, stp, List.mem_cons, List.not_mem_nil, Nat.reduceEqDiff, or_false, or_self, false_or, or_true, true_or, Nat.reduceAdd, ↓reduceIte, List.getElem?_cons_zero, List.getElem?_cons_succ, nthV, List.set_cons_zero, List.set_cons_succ, noL, popA, catS, Value.category, List.length_cons, List.length_nil, Nat.reduceLT, Nat.reduceLeDiff, true_and, and_true, one0, zer1, imp_t, imp_f, ofN_nI, sdead, f20, f21, not_true_eq_false, upC_ap, upC_upC, retC, fitC, isRefT, Option.toList_some, Option.toList_none, List.cons_append, List.nil_append, Nat.lt_add_one, Nat.zero_lt_succ, Nat.le_refl, Nat.add_zero, Nat.zero_add, Nat.one_ne_zero, Nat.zero_ne_one, Nat.lt_irrefl, List.length_set, fa_X2_measureKin, hi, hd, hQ, mr_X2_measureKin, hk', c1, c3, bI_0, b1]
      try simp only [m1f]
      try simp (disch := omega) only [nmod, nI_leI, nI_ltI, nI_eq, nI_clamp, vin_nI, nI_1, fa_lit, nI_add, nI_rm3, nI_rm2, pk_rem, pk_mul, pk_sub, pk_div, nI_eM, nI_Me, nI_pM, nI_pMz, nI_pM0, M1_lt, M1_le, nI_ltM, nI_leM, i8_nI, true_and, and_true, false_implies, true_implies, not_false_eq_true, not_true_eq_false, ne_eq, implies_true, Nat.not_lt_zero, Nat.zero_le, Nat.reduceLT, Nat.reduceLeDiff, Nat.reduceEqDiff, Nat.reduceAdd, Nat.reduceMul]
      try simp only [m1u]
      have hml := mnF_le (fkF S 0 t) o
      refine ⟨fun h => h68 _ _ _ fa ne hW' ?_ hF' hn', fun h => ?_⟩
      · rw [cnt1, mnF, if_neg h, show fkF S 0 t o = 99 from if_neg h, Nat.min_eq_left hml]
        exact hk2
      · have h := Decidable.not_not.mp h
        obtain ⟨y, hy1, hy2⟩ := hV.tent (by omega : o < tn S) h.2.1
        have hcy : (nI y).toNatClampNeg = y := nI_clamp (by have := hy1.1.1; omega)
        rw [c3' o (by omega), hy2]
        refine ⟨by omega, by omega, _, t_measureAt_22 hG (by omega) hB (hW'.king_22 _ _ _ _ _) hV (upC_self _ _ _) hml (by omega) hy1, ?_⟩
        rintro v n2 z2 f2 ⟨rfl, hW2, hk3, hF2, hn2⟩
        have hk4 := hk3
        unfold KV at hk3
        refine wp_sound (by rw [hi]; exact ok_X2_measureKin) (hd := [13, 33, 60, 68]) 400 _ _ _ _ _ _ ?_
        simp only [wp, stp, List.mem_cons, List.not_mem_nil, Nat.reduceEqDiff, or_false, or_self, false_or, or_true, true_or, Nat.reduceAdd, ↓reduceIte, List.getElem?_cons_zero, List.getElem?_cons_succ, nthV, List.set_cons_zero, List.set_cons_succ, noL, popA, catS, Value.category, List.length_cons, List.length_nil, Nat.reduceLT, Nat.reduceLeDiff, true_and, and_true, one0, zer1, imp_t, imp_f, ofN_nI, sdead, f20, f21, not_true_eq_false, upC_ap, upC_upC, retC, fitC, isRefT, Option.toList_some, Option.toList_none, List.cons_append, List.nil_append, Nat.lt_add_one, Nat.zero_lt_succ, Nat.le_refl, Nat.add_zero, Nat.zero_add, Nat.one_ne_zero, Nat.zero_ne_one, Nat.lt_irrefl, List.length_set, fa_X2_measureKin, hi, hd, hQ, mr_X2_measureKin, hk3]
        try simp only [m1f]
        try simp (disch := omega) only [nmod, nI_leI, nI_ltI, nI_eq, nI_clamp, vin_nI, nI_1, fa_lit, nI_add, nI_rm3, nI_rm2, pk_rem, pk_mul, pk_sub, pk_div, nI_eM, nI_Me, nI_pM, nI_pMz, nI_pM0, M1_lt, M1_le, nI_ltM, nI_leM, i8_nI, true_and, and_true, false_implies, true_implies, not_false_eq_true, not_true_eq_false, ne_eq, implies_true, Nat.not_lt_zero, Nat.zero_le, Nat.reduceLT, Nat.reduceLeDiff, Nat.reduceEqDiff, Nat.reduceAdd, Nat.reduceMul]
        try simp only [m1u]
        refine h68 _ _ _ (nI (min (mnF (fkF S 0 t) o) (faA S 0 o y))) (nI (neA S 0 o y)) (hW2.king_22 _ _ _ _ _) ?_ ((FRM.trans (hF'.up (by omega) (by simp)) hn' hF2).up (by omega) (by simp)) (by omega)
        unfold KV
        rw [upC_self, cnt1, mnF, if_pos h, show fkF S 0 t o = faA S 0 o y by rw [fkF, if_pos h, hy2, hcy]]
        rfl
  unfold KV at hk
  refine wp_sound (by rw [hi]; exact ok_X2_measureKin) (hd := [13, 33, 60]) 400 _ _ _ _ _ _ ?_
  simp only [wp, stp, List.mem_cons, List.not_mem_nil, Nat.reduceEqDiff, or_false, or_self, false_or, or_true, true_or, Nat.reduceAdd, ↓reduceIte, List.getElem?_cons_zero, List.getElem?_cons_succ, nthV, List.set_cons_zero, List.set_cons_succ, noL, popA, catS, Value.category, List.length_cons, List.length_nil, Nat.reduceLT, Nat.reduceLeDiff, true_and, and_true, one0, zer1, imp_t, imp_f, ofN_nI, sdead, f20, f21, not_true_eq_false, upC_ap, upC_upC, retC, fitC, isRefT, Option.toList_some, Option.toList_none, List.cons_append, List.nil_append, Nat.lt_add_one, Nat.zero_lt_succ, Nat.le_refl, Nat.add_zero, Nat.zero_add, Nat.one_ne_zero, Nat.zero_ne_one, Nat.lt_irrefl, List.length_set, fa_X2_measureKin, hi, hd, hQ, mr_X2_measureKin, hk]
  try simp only [m1f]
  try simp (disch := omega) only [nmod, nI_leI, nI_ltI, nI_eq, nI_clamp, vin_nI, nI_1, fa_lit, nI_add, nI_rm3, nI_rm2, pk_rem, pk_mul, pk_sub, pk_div, nI_eM, nI_Me, nI_pM, nI_pMz, nI_pM0, M1_lt, M1_le, nI_ltM, nI_leM, i8_nI, true_and, and_true, false_implies, true_implies, not_false_eq_true, not_true_eq_false, ne_eq, implies_true, Nat.not_lt_zero, Nat.zero_le, Nat.reduceLT, Nat.reduceLeDiff, Nat.reduceEqDiff, Nat.reduceAdd, Nat.reduceMul]
  try simp only [m1u]
  exact loop (tn S) 0 n z _ _ _ (by omega) (hW.king_22 _ _ _ _ _) (upC_self _ _ _) ((FRM.refl _ _ _).up (by omega) (by simp)) (Nat.le_refl _)
theorem t_payOf_22 (hG : Ok G) (hd1 : 4 ≤ d) (hB : Bd S) (hW : CW S L lp N Z K f n z) (hV : VB S) {bY : Int32} (hk : KB 22 16 f bY) (ht : t < tn S) (htn : ¬ S 2 t = -1) : Tr G d 38 [.ref 22, .int (nI t)] n z f (fun v n' z' f' => v = some (.int (nI (pyN S L 0 t))) ∧ CW S L lp N Z K f' n' z' ∧ KB 22 16 f' bY ∧ FRM [ 17, 18, 19, 22, 23 ] f n f' ∧ n ≤ n') := by
  obtain ⟨kn0, fk0, fa0, ne0, hk0⟩ := id hk
  obtain ⟨⟨b1, b2⟩, ⟨-, b4⟩, -⟩ := id hB
  obtain ⟨y, hy1, hy2⟩ := hV.tent ht htn
  have hy100 := hy1.1.1
  have hcy : (nI y).toNatClampNeg = y := nI_clamp (by omega)
  have hct : (nI t).toNatClampNeg = t := nI_clamp (by omega)
  unfold KV at hk0
  refine Tr.of2 (ls0 := [.ref 22, .int (nI t)]) hG mo_X2_payOf (Nat.le_of_ble_eq_true rfl) rfl ?_
  intro X hi hd hXn hXz hXf hQ
  refine wp_sound (by rw [hi]; exact ok_X2_payOf) (hd := [5, 19, 44]) 400 _ _ _ _ _ _ ?_
  simp only [wp, stp, List.mem_cons, List.not_mem_nil, Nat.reduceEqDiff, or_false, or_self, false_or, or_true, true_or, Nat.reduceAdd, ↓reduceIte, List.getElem?_cons_zero, List.getElem?_cons_succ, nthV, List.set_cons_zero, List.set_cons_succ, noL, popA, catS, Value.category, List.length_cons, List.length_nil, Nat.reduceLT, Nat.reduceLeDiff, true_and, and_true, one0, zer1, imp_t, imp_f, ofN_nI, sdead, f20, f21, not_true_eq_false, upC_ap, upC_upC, retC, fitC, isRefT, Option.toList_some, Option.toList_none, List.cons_append, List.nil_append, Nat.lt_add_one, Nat.zero_lt_succ, Nat.le_refl, Nat.add_zero, Nat.zero_add, Nat.one_ne_zero, Nat.zero_ne_one, Nat.lt_irrefl, List.length_set, fa_X2_payOf, hi, hd, hQ, mr_X2_payOf, hk0]
  try simp only [m1f]
  try simp (disch := omega) only [nmod, nI_leI, nI_ltI, nI_eq, nI_clamp, vin_nI, nI_1, fa_lit, nI_add, nI_rm3, nI_rm2, pk_rem, pk_mul, pk_sub, pk_div, nI_eM, nI_Me, nI_pM, nI_pMz, nI_pM0, M1_lt, M1_le, nI_ltM, nI_leM, i8_nI, true_and, and_true, false_implies, true_implies, not_false_eq_true, not_true_eq_false, ne_eq, implies_true, Nat.not_lt_zero, Nat.zero_le, Nat.reduceLT, Nat.reduceLeDiff, Nat.reduceEqDiff, Nat.reduceAdd, Nat.reduceMul]
  try simp only [m1u]
  refine ⟨by omega, _, t_measureKin_22 hG (by omega) hB hW hV hk ht, ?_⟩
  rintro v n1 z1 f1 ⟨rfl, hW1, ⟨fa1, ne1, hk1⟩, hF1, hn1⟩
  obtain ⟨c1, -, ya, -, -, -, -, -, -, -, -, c3, c3', -⟩ := id hW1.1
  have hk1' := hk1
  unfold KV at hk1
  refine wp_sound (by rw [hi]; exact ok_X2_payOf) (hd := [5, 19, 44]) 400 _ _ _ _ _ _ ?_
  simp only [wp, stp, List.mem_cons, List.not_mem_nil, Nat.reduceEqDiff, or_false, or_self, false_or, or_true, true_or, Nat.reduceAdd, ↓reduceIte, List.getElem?_cons_zero, List.getElem?_cons_succ, nthV, List.set_cons_zero, List.set_cons_succ, noL, popA, catS, Value.category, List.length_cons, List.length_nil, Nat.reduceLT, Nat.reduceLeDiff, true_and, and_true, one0, zer1, imp_t, imp_f, ofN_nI, sdead, f20, f21, not_true_eq_false, upC_ap, upC_upC, retC, fitC, isRefT, Option.toList_some, Option.toList_none, List.cons_append, List.nil_append, Nat.lt_add_one, Nat.zero_lt_succ, Nat.le_refl, Nat.add_zero, Nat.zero_add, Nat.one_ne_zero, Nat.zero_ne_one, Nat.lt_irrefl, List.length_set, fa_X2_payOf, hi, hd, hQ, mr_X2_payOf, hk1, c1, c3]
  try simp only [m1f]
  try simp (disch := omega) only [nmod, nI_leI, nI_ltI, nI_eq, nI_clamp, vin_nI, nI_1, fa_lit, nI_add, nI_rm3, nI_rm2, pk_rem, pk_mul, pk_sub, pk_div, nI_eM, nI_Me, nI_pM, nI_pMz, nI_pM0, M1_lt, M1_le, nI_ltM, nI_leM, i8_nI, true_and, and_true, false_implies, true_implies, not_false_eq_true, not_true_eq_false, ne_eq, implies_true, Nat.not_lt_zero, Nat.zero_le, Nat.reduceLT, Nat.reduceLeDiff, Nat.reduceEqDiff, Nat.reduceAdd, Nat.reduceMul]
  try simp only [m1u]
  rw [c3' t ht, hy2]
  refine ⟨by omega, by omega, _, t_measureAt_22 hG (by omega) hB hW1 hV hk1' (mnF_le _ _) (by omega) hy1, ?_⟩
  rintro v n2 z2 f2 ⟨rfl, hW2, hk2, hF2, hn2⟩
  obtain ⟨c1, -, ya, -, -, -, -, -, -, -, -, c3, c3', -⟩ := id hW2.1
  have hk2' := hk2
  unfold KV at hk2
  refine wp_sound (by rw [hi]; exact ok_X2_payOf) (hd := [5, 19, 44]) 400 _ _ _ _ _ _ ?_
  simp only [wp, stp, List.mem_cons, List.not_mem_nil, Nat.reduceEqDiff, or_false, or_self, false_or, or_true, true_or, Nat.reduceAdd, ↓reduceIte, List.getElem?_cons_zero, List.getElem?_cons_succ, nthV, List.set_cons_zero, List.set_cons_succ, noL, popA, catS, Value.category, List.length_cons, List.length_nil, Nat.reduceLT, Nat.reduceLeDiff, true_and, and_true, one0, zer1, imp_t, imp_f, ofN_nI, sdead, f20, f21, not_true_eq_false, upC_ap, upC_upC, retC, fitC, isRefT, Option.toList_some, Option.toList_none, List.cons_append, List.nil_append, Nat.lt_add_one, Nat.zero_lt_succ, Nat.le_refl, Nat.add_zero, Nat.zero_add, Nat.one_ne_zero, Nat.zero_ne_one, Nat.lt_irrefl, List.length_set, fa_X2_payOf, hi, hd, hQ, mr_X2_payOf, hk2, c1, c3]
  try simp only [m1f]
  try simp (disch := omega) only [nmod, nI_leI, nI_ltI, nI_eq, nI_clamp, vin_nI, nI_1, fa_lit, nI_add, nI_rm3, nI_rm2, pk_rem, pk_mul, pk_sub, pk_div, nI_eM, nI_Me, nI_pM, nI_pMz, nI_pM0, M1_lt, M1_le, nI_ltM, nI_leM, i8_nI, true_and, and_true, false_implies, true_implies, not_false_eq_true, not_true_eq_false, ne_eq, implies_true, Nat.not_lt_zero, Nat.zero_le, Nat.reduceLT, Nat.reduceLeDiff, Nat.reduceEqDiff, Nat.reduceAdd, Nat.reduceMul]
  try simp only [m1u]
  rw [c3' t ht, hy2]
  obtain ⟨F, hF⟩ : ∃ F, f2 23 = cI 8 F := hW2.2.2.2.2.2.1.2
  have h1 : neA S 0 t y ≤ _ := cnt1_le _ _
  have h2 : knN S t ≤ _ := cnt1_le _ _
  have h3 : fkN S 0 t ≤ 99 := mnF_le _ _
  refine ⟨by omega, by omega, _, t_payFor_22 hG (by omega) hB hW2.1 hW2.2.2.2.1 hk2' hF hy1.1 (by show min (fkN S 0 t) (faA S 0 t y) < 1000; omega) (by show neA S 0 t y < 1000; omega) (by omega), ?_⟩
  rintro v n3 z3 f3 ⟨rfl, rfl, rfl, F', rfl⟩
  refine wp_sound (by rw [hi]; exact ok_X2_payOf) (hd := [5, 19, 44]) 400 _ _ _ _ _ _ ?_
  simp only [wp, stp, List.mem_cons, List.not_mem_nil, Nat.reduceEqDiff, or_false, or_self, false_or, or_true, true_or, Nat.reduceAdd, ↓reduceIte, List.getElem?_cons_zero, List.getElem?_cons_succ, nthV, List.set_cons_zero, List.set_cons_succ, noL, popA, catS, Value.category, List.length_cons, List.length_nil, Nat.reduceLT, Nat.reduceLeDiff, true_and, and_true, one0, zer1, imp_t, imp_f, ofN_nI, sdead, f20, f21, not_true_eq_false, upC_ap, upC_upC, retC, fitC, isRefT, Option.toList_some, Option.toList_none, List.cons_append, List.nil_append, Nat.lt_add_one, Nat.zero_lt_succ, Nat.le_refl, Nat.add_zero, Nat.zero_add, Nat.one_ne_zero, Nat.zero_ne_one, Nat.lt_irrefl, List.length_set, fa_X2_payOf, hi, hd, hQ, mr_X2_payOf]
  try simp only [m1f]
  try simp (disch := omega) only [nmod, nI_leI, nI_ltI, nI_eq, nI_clamp, vin_nI, nI_1, fa_lit, nI_add, nI_rm3, nI_rm2, pk_rem, pk_mul, pk_sub, pk_div, nI_eM, nI_Me, nI_pM, nI_pMz, nI_pM0, M1_lt, M1_le, nI_ltM, nI_leM, i8_nI, true_and, and_true, false_implies, true_implies, not_false_eq_true, not_true_eq_false, ne_eq, implies_true, Nat.not_lt_zero, Nat.zero_le, Nat.reduceLT, Nat.reduceLeDiff, Nat.reduceEqDiff, Nat.reduceAdd, Nat.reduceMul]
  try simp only [m1u]
  refine ⟨by rw [pyN, hy2, hcy]; rfl, hW2.facts_22 F', ⟨_, _, _, _, by unfold KV; rw [upC_ne _ _ (by omega)]; exact hk2⟩, ((FRM.trans hF1 hn1 hF2).mono (fun x hx => by simp at hx ⊢; omega)).up (by omega) (by simp), by omega⟩
end King2
