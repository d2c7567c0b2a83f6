-- the king measures and pays
set_option maxRecDepth 100000
set_option maxHeartbeats 4000000
section King1
variable {G : Gam} {d n z lp N Z K t c : Nat} {f : Mf} {S : Sta} {L : Lw}
theorem t_waterBeside (hG : Ok G) (hC : CR S lp f) (hB : Bd S) (hc : c < 100 ∧ c % 10 < wdt S ∧ c / 10 < hgt S) : Tr G d 27 [.ref 1, .int (nI c)] n z f (Same (.int (nI (wtN S c))) n z f) := by
  obtain ⟨h1, kd, ya, fa, mo, co, mv, tp, my, h2, h2', -⟩ := hC
  obtain ⟨-, -, wd, ht, e0, e1, hw1, hw2, hh1, hh2⟩ := hB
  have ewd : wdt S = wd := by rw [wdt, e0, nI_clamp (by omega)]
  have eht : hgt S = ht := by rw [hgt, e1, nI_clamp (by omega)]
  rw [ewd, eht] at hc
  obtain ⟨hc1, hc2, hc3⟩ := hc
  have n0 : nI 0 = 0 := rfl
  refine Tr.of2 (ls0 := [.ref 1, .int (nI c), dead, dead, dead]) hG mo_X0_waterBeside (Nat.le_of_ble_eq_true rfl) rfl ?_
  intro X hi hd hXn hXz hXf hQ
  have h99 : ∀ a, a = wtN S c → V G X 99 [.ref 1, .int (nI c), .int (nI (c % 10)), .int (nI (c / 10)), .int (nI a)] [] n z f := by
    intro a ha
    refine wp_sound (by rw [hi]; exact ok_X0_waterBeside) (hd := []) 400 _ _ _ _ _ _ ?_
    simp only [wp, stp, List.mem_cons, List.not_mem_nil, Nat.reduceEqDiff, or_false, or_self, false_or, or_true, true_or, Nat.reduceAdd, ↓reduceIte, List.getElem?_cons_zero, List.getElem?_cons_succ, nthV, List.set_cons_zero, List.set_cons_succ, noL, popA, catS, Value.category, List.length_cons, List.length_nil, Nat.reduceLT, Nat.reduceLeDiff, true_and, and_true, one0, zer1, imp_t, imp_f, ofN_nI, sdead, f20, f21, not_true_eq_false, upC_ap, upC_upC, retC, fitC, isRefT, Option.toList_some, Option.toList_none, List.cons_append, List.nil_append, Nat.lt_add_one, Nat.zero_lt_succ, Nat.le_refl, Nat.add_zero, Nat.zero_add, Nat.one_ne_zero, Nat.zero_ne_one, Nat.lt_irrefl, List.length_set, fa_X0_waterBeside, hi, hd, hQ, mr_X0_waterBeside]
    try simp only [m1f]
    try simp (disch := omega) only [nmod, nI_leI, nI_ltI, nI_eq, nI_clamp, vin_nI, nI_1, fa_lit, nI_add, nI_rm3, nI_rm2, pk_rem, pk_mul, pk_sub, pk_div, nI_eM, nI_Me, nI_pM, nI_pMz, nI_pM0, M1_lt, M1_le, nI_ltM, nI_leM, i8_nI, true_and, and_true, false_implies, true_implies, not_false_eq_true, not_true_eq_false, ne_eq, implies_true, Nat.not_lt_zero, Nat.zero_le]
    try simp only [m1u]
    exact Same.i (by rw [ha])
  have h74 : ∀ a, a < 10 → a + (if c / 10 + 1 < hgt S ∧ ¬ S 1 (c + 10) = 0 then 1 else 0) = wtN S c → V G X 74 [.ref 1, .int (nI c), .int (nI (c % 10)), .int (nI (c / 10)), .int (nI a)] [] n z f := by
    intro a ha hh
    have e := h2' (c + 10)
    rw [eht] at hh
    refine wp_sound (by rw [hi]; exact ok_X0_waterBeside) (hd := [99]) 400 _ _ _ _ _ _ ?_
    simp only [wp, stp, List.mem_cons, List.not_mem_nil, Nat.reduceEqDiff, or_false, or_self, false_or, or_true, true_or, Nat.reduceAdd, ↓reduceIte, List.getElem?_cons_zero, List.getElem?_cons_succ, nthV, List.set_cons_zero, List.set_cons_succ, noL, popA, catS, Value.category, List.length_cons, List.length_nil, Nat.reduceLT, Nat.reduceLeDiff, true_and, and_true, one0, zer1, imp_t, imp_f, ofN_nI, sdead, f20, f21, not_true_eq_false, upC_ap, upC_upC, retC, fitC, isRefT, Option.toList_some, Option.toList_none, List.cons_append, List.nil_append, Nat.lt_add_one, Nat.zero_lt_succ, Nat.le_refl, Nat.add_zero, Nat.zero_add, Nat.one_ne_zero, Nat.zero_ne_one, Nat.lt_irrefl, List.length_set, fa_X0_waterBeside, hi, hd, hQ, mr_X0_waterBeside, h1, h2, e0, e1]
    try simp only [m1f]
    try simp +contextual (disch := omega) only [nmod, nI_leI, nI_ltI, nI_eq, nI_clamp, vin_nI, nI_1, fa_lit, nI_add, nI_rm3, nI_rm2, pk_rem, pk_mul, pk_sub, pk_div, nI_eM, nI_Me, nI_pM, nI_pMz, nI_pM0, M1_lt, M1_le, nI_ltM, nI_leM, i8_nI, true_and, and_true, false_implies, true_implies, not_false_eq_true, not_true_eq_false, ne_eq, implies_true, Nat.not_lt_zero, Nat.zero_le]
    try simp only [m1u]
    refine ⟨fun q => h99 _ (by grind), fun q => ⟨by omega, ?_⟩⟩
    rw [e (by omega)]
    exact ⟨fun r => h99 _ (by grind), fun r => h99 _ (by grind)⟩
  have h55 : ∀ a, a < 9 → a + (if 0 < c / 10 ∧ ¬ S 1 (c - 10) = 0 then 1 else 0) + (if c / 10 + 1 < hgt S ∧ ¬ S 1 (c + 10) = 0 then 1 else 0) = wtN S c → V G X 55 [.ref 1, .int (nI c), .int (nI (c % 10)), .int (nI (c / 10)), .int (nI a)] [] n z f := by
    intro a ha hh
    have e := h2' (c - 10)
    refine wp_sound (by rw [hi]; exact ok_X0_waterBeside) (hd := [74, 99]) 400 _ _ _ _ _ _ ?_
    simp only [wp, stp, List.mem_cons, List.not_mem_nil, Nat.reduceEqDiff, or_false, or_self, false_or, or_true, true_or, Nat.reduceAdd, ↓reduceIte, List.getElem?_cons_zero, List.getElem?_cons_succ, nthV, List.set_cons_zero, List.set_cons_succ, noL, popA, catS, Value.category, List.length_cons, List.length_nil, Nat.reduceLT, Nat.reduceLeDiff, true_and, and_true, one0, zer1, imp_t, imp_f, ofN_nI, sdead, f20, f21, not_true_eq_false, upC_ap, upC_upC, retC, fitC, isRefT, Option.toList_some, Option.toList_none, List.cons_append, List.nil_append, Nat.lt_add_one, Nat.zero_lt_succ, Nat.le_refl, Nat.add_zero, Nat.zero_add, Nat.one_ne_zero, Nat.zero_ne_one, Nat.lt_irrefl, List.length_set, fa_X0_waterBeside, hi, hd, hQ, mr_X0_waterBeside, h1, h2, e0, e1]
    try simp only [m1f]
    try simp +contextual (disch := omega) only [nmod, nI_leI, nI_ltI, nI_eq, nI_clamp, vin_nI, nI_1, fa_lit, nI_add, nI_rm3, nI_rm2, pk_rem, pk_mul, pk_sub, pk_div, nI_eM, nI_Me, nI_pM, nI_pMz, nI_pM0, M1_lt, M1_le, nI_ltM, nI_leM, i8_nI, true_and, and_true, false_implies, true_implies, not_false_eq_true, not_true_eq_false, ne_eq, implies_true, Nat.not_lt_zero, Nat.zero_le]
    try simp only [m1u]
    refine ⟨fun q => h74 _ (by omega) (by grind), fun q => ⟨by omega, ?_⟩⟩
    rw [e (by omega)]
    exact ⟨fun r => h74 _ (by omega) (by grind), fun r => h74 _ (by omega) (by grind)⟩
  have h31 : ∀ a, a < 8 → a + (if c % 10 + 1 < wdt S ∧ ¬ S 1 (c + 1) = 0 then 1 else 0) + (if 0 < c / 10 ∧ ¬ S 1 (c - 10) = 0 then 1 else 0) + (if c / 10 + 1 < hgt S ∧ ¬ S 1 (c + 10) = 0 then 1 else 0) = wtN S c → V G X 31 [.ref 1, .int (nI c), .int (nI (c % 10)), .int (nI (c / 10)), .int (nI a)] [] n z f := by
    intro a ha hh
    have e := h2' (c + 1)
    rw [ewd] at hh
    refine wp_sound (by rw [hi]; exact ok_X0_waterBeside) (hd := [55, 74, 99]) 400 _ _ _ _ _ _ ?_
    simp only [wp, stp, List.mem_cons, List.not_mem_nil, Nat.reduceEqDiff, or_false, or_self, false_or, or_true, true_or, Nat.reduceAdd, ↓reduceIte, List.getElem?_cons_zero, List.getElem?_cons_succ, nthV, List.set_cons_zero, List.set_cons_succ, noL, popA, catS, Value.category, List.length_cons, List.length_nil, Nat.reduceLT, Nat.reduceLeDiff, true_and, and_true, one0, zer1, imp_t, imp_f, ofN_nI, sdead, f20, f21, not_true_eq_false, upC_ap, upC_upC, retC, fitC, isRefT, Option.toList_some, Option.toList_none, List.cons_append, List.nil_append, Nat.lt_add_one, Nat.zero_lt_succ, Nat.le_refl, Nat.add_zero, Nat.zero_add, Nat.one_ne_zero, Nat.zero_ne_one, Nat.lt_irrefl, List.length_set, fa_X0_waterBeside, hi, hd, hQ, mr_X0_waterBeside, h1, h2, e0, e1]
    try simp only [m1f]
    try simp +contextual (disch := omega) only [nmod, nI_leI, nI_ltI, nI_eq, nI_clamp, vin_nI, nI_1, fa_lit, nI_add, nI_rm3, nI_rm2, pk_rem, pk_mul, pk_sub, pk_div, nI_eM, nI_Me, nI_pM, nI_pMz, nI_pM0, M1_lt, M1_le, nI_ltM, nI_leM, i8_nI, true_and, and_true, false_implies, true_implies, not_false_eq_true, not_true_eq_false, ne_eq, implies_true, Nat.not_lt_zero, Nat.zero_le]
    try simp only [m1u]
    refine ⟨fun q => h55 _ (by omega) (by grind), fun q => ⟨by omega, ?_⟩⟩
    rw [e (by omega)]
    exact ⟨fun r => h55 _ (by omega) (by grind), fun r => h55 _ (by omega) (by grind)⟩
  have e := h2' (c - 1)
  refine wp_sound (by rw [hi]; exact ok_X0_waterBeside) (hd := [31, 55, 74, 99]) 400 _ _ _ _ _ _ ?_
  simp only [wp, stp, List.mem_cons, List.not_mem_nil, Nat.reduceEqDiff, or_false, or_self, false_or, or_true, true_or, Nat.reduceAdd, ↓reduceIte, List.getElem?_cons_zero, List.getElem?_cons_succ, nthV, List.set_cons_zero, List.set_cons_succ, noL, popA, catS, Value.category, List.length_cons, List.length_nil, Nat.reduceLT, Nat.reduceLeDiff, true_and, and_true, one0, zer1, imp_t, imp_f, ofN_nI, sdead, f20, f21, not_true_eq_false, upC_ap, upC_upC, retC, fitC, isRefT, Option.toList_some, Option.toList_none, List.cons_append, List.nil_append, Nat.lt_add_one, Nat.zero_lt_succ, Nat.le_refl, Nat.add_zero, Nat.zero_add, Nat.one_ne_zero, Nat.zero_ne_one, Nat.lt_irrefl, List.length_set, fa_X0_waterBeside, hi, hd, hQ, mr_X0_waterBeside, h1, h2, e0, e1]
  try simp only [m1f]
  try simp +contextual (disch := omega) only [nmod, nI_leI, nI_ltI, nI_eq, nI_clamp, vin_nI, nI_1, fa_lit, nI_add, nI_rm3, nI_rm2, pk_rem, pk_mul, pk_sub, pk_div, nI_eM, nI_Me, nI_pM, nI_pMz, nI_pM0, M1_lt, M1_le, nI_ltM, nI_leM, i8_nI, true_and, and_true, false_implies, true_implies, not_false_eq_true, not_true_eq_false, ne_eq, implies_true, Nat.not_lt_zero, Nat.zero_le]
  try simp only [m1u]
  refine ⟨by omega, by omega, fun q => h31 _ (by omega) (by rw [wtN]; grind), fun q => ⟨by omega, ?_⟩⟩
  rw [e (by omega)]
  exact ⟨fun r => h31 _ (by omega) (by rw [wtN]; grind), fun r => h31 _ (by omega) (by rw [wtN]; grind)⟩
theorem t_measureAt_20 (hG : Ok G) (hd1 : 2 ≤ d) (hB : Bd S) (hW : CW S L lp N Z K f n z) (hV : VB S) {bY kn fa0 ne0 : Int32} {fk : Nat} (hk : KV 20 12 f bY kn (nI fk) fa0 ne0) (hfk : fk ≤ 99) (ht : t < 100) (hc : gsN S c) : Tr G d 44 [.ref 20, .int (nI t), .int (nI c)] n z f (fun v n' z' f' => v = none ∧ CW S L lp N Z K f' n' z' ∧ KV 20 12 f' bY kn (nI fk) (nI (min fk (faA S 1 t c))) (nI (neA S 1 t c)) ∧ FRM [ 13, 14, 15, 20 ] f n f' ∧ n ≤ n') := by
  obtain ⟨g1, g2, w1, w2, w3, w4, w5⟩ := id hW.2.2.2.2.2.2
  obtain ⟨q1, q2, q3⟩ := id hW.2.2.1
  refine Tr.of2 (ls0 := [.ref 20, .int (nI t), .int (nI c), dead, dead, dead, dead, dead]) hG mo_X2_measureAt (Nat.le_of_ble_eq_true rfl) rfl ?_
  intro X hi hd hXn hXz hXf hQ
  unfold KV at hk
  obtain ⟨sg, qq, v1, -⟩ := id w1
  refine wp_sound (by rw [hi]; exact ok_X2_measureAt) (hd := [8, 16, 34, 50, 116]) 400 _ _ _ _ _ _ ?_
  simp only [wp, stp, List.mem_cons, List.not_mem_nil, Nat.reduceEqDiff, or_false, or_self, false_or, or_true, true_or, Nat.reduceAdd, ↓reduceIte, List.getElem?_cons_zero, List.getElem?_cons_succ, nthV, List.set_cons_zero, List.set_cons_succ, noL, popA, catS, Value.category, List.length_cons, List.length_nil, Nat.reduceLT, Nat.reduceLeDiff, true_and, and_true, one0, zer1, imp_t, imp_f, ofN_nI, sdead, f20, f21, not_true_eq_false, upC_ap, upC_upC, retC, fitC, isRefT, Option.toList_some, Option.toList_none, List.cons_append, List.nil_append, Nat.lt_add_one, Nat.zero_lt_succ, Nat.le_refl, Nat.add_zero, Nat.zero_add, Nat.one_ne_zero, Nat.zero_ne_one, Nat.lt_irrefl, List.length_set, fa_X2_measureAt, hi, hd, hQ, mr_X2_measureAt, hk, v1]
  try simp only [m1f]
  try simp (disch := omega) only [nmod, nI_leI, nI_ltI, nI_eq, nI_clamp, vin_nI, nI_1, fa_lit, nI_add, nI_rm3, nI_rm2, pk_rem, pk_mul, pk_sub, pk_div, nI_eM, nI_Me, nI_pM, nI_pMz, nI_pM0, M1_lt, M1_le, nI_ltM, nI_leM, i8_nI, true_and, and_true, false_implies, true_implies, not_false_eq_true, not_true_eq_false, ne_eq, implies_true, Nat.not_lt_zero, Nat.zero_le]
  try simp only [m1u]
  refine ⟨by omega, _, t_from_12 hG (by omega) hB hW.1 hW.2.1 w1 q1 hc.1.1 (hc.op 1) (by omega) (by omega), ?_⟩
  intro v n1 z1 f1 hF
  obtain ⟨p, r, rfl, e2, e3, hW1, hF1, hn1⟩ := CW.from_12 hW w1 w2 w3 w4 w5 hF
  have hk1 : f1 20 = _ := (hF1.1 20 (by omega) (by decide)).trans hk
  have hpk : ¬ p = 20 := fun e => by rw [e, hk1] at e2; cases e2
  have c1 := hW1.1.1
  refine wp_sound (by rw [hi]; exact ok_X2_measureAt) (hd := [8, 16, 34, 50, 116]) 400 _ _ _ _ _ _ ?_
  simp only [wp, stp, List.mem_cons, List.not_mem_nil, Nat.reduceEqDiff, or_false, or_self, false_or, or_true, true_or, Nat.reduceAdd, ↓reduceIte, List.getElem?_cons_zero, List.getElem?_cons_succ, nthV, List.set_cons_zero, List.set_cons_succ, noL, popA, catS, Value.category, List.length_cons, List.length_nil, Nat.reduceLT, Nat.reduceLeDiff, true_and, and_true, one0, zer1, imp_t, imp_f, ofN_nI, sdead, f20, f21, not_true_eq_false, upC_ap, upC_upC, retC, fitC, isRefT, Option.toList_some, Option.toList_none, List.cons_append, List.nil_append, Nat.lt_add_one, Nat.zero_lt_succ, Nat.le_refl, Nat.add_zero, Nat.zero_add, Nat.one_ne_zero, Nat.zero_ne_one, Nat.lt_irrefl, List.length_set, fa_X2_measureAt, hi, hd, hQ, mr_X2_measureAt, hk1, c1]
  try simp only [m1f]
  try simp (disch := omega) only [nmod, nI_leI, nI_ltI, nI_eq, nI_clamp, vin_nI, nI_1, fa_lit, nI_add, nI_rm3, nI_rm2, pk_rem, pk_mul, pk_sub, pk_div, nI_eM, nI_Me, nI_pM, nI_pMz, nI_pM0, M1_lt, M1_le, nI_ltM, nI_leM, i8_nI, true_and, and_true, false_implies, true_implies, not_false_eq_true, not_true_eq_false, ne_eq, implies_true, Nat.not_lt_zero, Nat.zero_le]
  try simp only [m1u]
  refine ⟨by omega, _, t_bodies hG hW1.1 hB, ?_⟩
  rintro v n2 z2 f2 ⟨rfl, rfl, rfl, rfl⟩
  obtain ⟨M, hM⟩ : ∃ M : Nat → Nat → Mf, M = fun a b => upC f2 20 (cO 2 [.ref 12, .int bY, .ref 1, .ref 21, .int kn, .int (nI fk), .int (nI a), .int (nI b)]) := ⟨_, rfl⟩
  have m1 : ∀ a b, M a b 20 = cO 2 [.ref 12, .int bY, .ref 1, .ref 21, .int kn, .int (nI fk), .int (nI a), .int (nI b)] := fun a b => by rw [hM]; exact upC_self _ _ _
  have m2 : ∀ a b x, ¬ x = 20 → M a b x = f2 x := fun a b x h => by rw [hM]; exact upC_ne _ _ h
  have m3 : ∀ a b, M a b p = cB 100 r := fun a b => by rw [m2 _ _ _ hpk]; exact e2
  have m4 : ∀ a b, CR S lp (M a b) := fun a b => hW1.1.off (fun k _ _ => m2 _ _ _ (by omega))
  have m5 : ∀ a b a' b', upC (M a b) 20 (cO 2 [.ref 12, .int bY, .ref 1, .ref 21, .int kn, .int (nI fk), .int (nI a'), .int (nI b')]) = M a' b' := fun a b a' b' => by rw [hM]; exact upC_upC _ _ _ _
  have m6 : ∀ a b, M a b 1 = cO 0 _ := fun a b => (m2 _ _ 1 (by omega)).trans c1
  obtain ⟨⟨-, b2⟩, ⟨-, b4⟩, -⟩ := id hB
  have fin : ∀ a b, a = min fk (faA S 1 t c) → b = neA S 1 t c → CW S L lp N Z K (M a b) n2 z2 ∧ KV 20 12 (M a b) bY kn (nI fk) (nI (min fk (faA S 1 t c))) (nI (neA S 1 t c)) ∧ FRM [ 13, 14, 15, 20 ] f n (M a b) ∧ n ≤ n2 := by
    rintro a b rfl rfl
    refine ⟨hW1.off (fun x hx => m2 _ _ _ (by omega)) (fun x hx => m2 _ _ _ (by omega)) ?_ ?_, m1 _ _, ?_, hn1⟩
    · refine ⟨⟨_, _, _, _, _, m1 _ _⟩, ?_⟩; obtain ⟨F, hF⟩ := hW1.2.2.2.2.1.2; exact ⟨F, by rw [m2 _ _ _ (by omega)]; exact hF⟩
    · exact hW1.2.2.2.2.2.1.cong (m2 _ _ _ (by omega)) (m2 _ _ _ (by omega))
    · rw [hM]
      exact (hF1.mono (fun x hx => by simp at hx ⊢; omega)).up (by omega) (by simp)
  have loop : ∀ k' o a b u6 u7, o + k' = tn S + mn S + 1 → a = min fk (mnF (bdF S 1 t c) o) → b = cnt1 (nrP S 1 t c) o → V G X 34 [.ref 20, .int (nI t), .int (nI c), .ref p, .int (nI (tn S + mn S + 1)), .int (nI o), u6, u7] [] n2 z2 (M a b) := by
    intro k'
    induction k' with
    | zero =>
      intro o a b u6 u7 ho ha hb
      have : o = tn S + mn S + 1 := by omega
      subst this
      refine wp_sound (by rw [hi]; exact ok_X2_measureAt) (hd := [8, 16, 34, 50, 116]) 400 _ _ _ _ _ _ ?_
      simp only [wp, stp, List.mem_cons, List.not_mem_nil, Nat.reduceEqDiff, or_false, or_self, false_or, or_true, true_or, Nat.reduceAdd, ↓reduceIte, List.getElem?_cons_zero, List.getElem?_cons_succ, nthV, List.set_cons_zero, List.set_cons_succ, noL, popA, catS, Value.category, List.length_cons, List.length_nil, Nat.reduceLT, Nat.reduceLeDiff, true_and, and_true, one0, zer1, imp_t, imp_f, ofN_nI, sdead, f20, f21, not_true_eq_false, upC_ap, upC_upC, retC, fitC, isRefT, Option.toList_some, Option.toList_none, List.cons_append, List.nil_append, Nat.lt_add_one, Nat.zero_lt_succ, Nat.le_refl, Nat.add_zero, Nat.zero_add, Nat.one_ne_zero, Nat.zero_ne_one, Nat.lt_irrefl, List.length_set, fa_X2_measureAt, hi, hd, hQ, mr_X2_measureAt, m1]
      try simp only [m1f]
      try simp (disch := omega) only [nmod, nI_leI, nI_ltI, nI_eq, nI_clamp, vin_nI, nI_1, fa_lit, nI_add, nI_rm3, nI_rm2, pk_rem, pk_mul, pk_sub, pk_div, nI_eM, nI_Me, nI_pM, nI_pMz, nI_pM0, M1_lt, M1_le, nI_ltM, nI_leM, i8_nI, true_and, and_true, false_implies, true_implies, not_false_eq_true, not_true_eq_false, ne_eq, implies_true, Nat.not_lt_zero, Nat.zero_le]
      try simp only [m1u]
      exact ⟨fun _ => fin a b ha hb, fun h => absurd (Nat.le_refl _) h⟩
    | succ k' ih =>
      intro o a b u6 u7 ho ha hb
      have hble := cnt1_le (nrP S 1 t c) o
      have hcl : (nI o).toNatClampNeg = o := nI_clamp (by omega)
      have h125 : ∀ a b u6 u7, a = min fk (mnF (bdF S 1 t c) (o + 1)) → b = cnt1 (nrP S 1 t c) (o + 1) → V G X 125 [.ref 20, .int (nI t), .int (nI c), .ref p, .int (nI (tn S + mn S + 1)), .int (nI o), u6, u7] [] n2 z2 (M a b) := by
        intro a b u6 u7 ha hb
        refine wp_sound (by rw [hi]; exact ok_X2_measureAt) (hd := [8, 16, 34, 50, 116]) 400 _ _ _ _ _ _ ?_
        simp only [wp, stp, List.mem_cons, List.not_mem_nil, Nat.reduceEqDiff, or_false, or_self, false_or, or_true, true_or, Nat.reduceAdd, ↓reduceIte, List.getElem?_cons_zero, List.getElem?_cons_succ, nthV, List.set_cons_zero, List.set_cons_succ, noL, popA, catS, Value.category, List.length_cons, List.length_nil, Nat.reduceLT, Nat.reduceLeDiff, true_and, and_true, one0, zer1, imp_t, imp_f, ofN_nI, sdead, f20, f21, not_true_eq_false, upC_ap, upC_upC, retC, fitC, isRefT, Option.toList_some, Option.toList_none, List.cons_append, List.nil_append, Nat.lt_add_one, Nat.zero_lt_succ, Nat.le_refl, Nat.add_zero, Nat.zero_add, Nat.one_ne_zero, Nat.zero_ne_one, Nat.lt_irrefl, List.length_set, fa_X2_measureAt, hi, hd, hQ, mr_X2_measureAt, m1]
        try simp only [m1f]
        try simp (disch := omega) only [nmod, nI_leI, nI_ltI, nI_eq, nI_clamp, vin_nI, nI_1, fa_lit, nI_add, nI_rm3, nI_rm2, pk_rem, pk_mul, pk_sub, pk_div, nI_eM, nI_Me, nI_pM, nI_pMz, nI_pM0, M1_lt, M1_le, nI_ltM, nI_leM, i8_nI, true_and, and_true, false_implies, true_implies, not_false_eq_true, not_true_eq_false, ne_eq, implies_true, Nat.not_lt_zero, Nat.zero_le]
        try simp only [m1u]
        exact ih (o + 1) a b u6 u7 (by omega) ha hb
      refine wp_sound (by rw [hi]; exact ok_X2_measureAt) (hd := [8, 16, 34, 50, 97, 116, 125]) 400 _ _ _ _ _ _ ?_
      simp only [wp, stp, List.mem_cons, List.not_mem_nil, Nat.reduceEqDiff, or_false, or_self, false_or, or_true, true_or, Nat.reduceAdd, ↓reduceIte, List.getElem?_cons_zero, List.getElem?_cons_succ, nthV, List.set_cons_zero, List.set_cons_succ, noL, popA, catS, Value.category, List.length_cons, List.length_nil, Nat.reduceLT, Nat.reduceLeDiff, true_and, and_true, one0, zer1, imp_t, imp_f, ofN_nI, sdead, f20, f21, not_true_eq_false, upC_ap, upC_upC, retC, fitC, isRefT, Option.toList_some, Option.toList_none, List.cons_append, List.nil_append, Nat.lt_add_one, Nat.zero_lt_succ, Nat.le_refl, Nat.add_zero, Nat.zero_add, Nat.one_ne_zero, Nat.zero_ne_one, Nat.lt_irrefl, List.length_set, fa_X2_measureAt, hi, hd, hQ, mr_X2_measureAt, m1, m6]
      try simp only [m1f]
      try simp (disch := omega) only [nmod, nI_leI, nI_ltI, nI_eq, nI_clamp, vin_nI, nI_1, fa_lit, nI_add, nI_rm3, nI_rm2, pk_rem, pk_mul, pk_sub, pk_div, nI_eM, nI_Me, nI_pM, nI_pMz, nI_pM0, M1_lt, M1_le, nI_ltM, nI_leM, i8_nI, true_and, and_true, false_implies, true_implies, not_false_eq_true, not_true_eq_false, ne_eq, implies_true, Nat.not_lt_zero, Nat.zero_le]
      try simp only [m1u]
      refine ⟨fun h => absurd h (by omega), fun _ => ⟨by omega, _, t_yardOfBody hG (m4 a b) hB (by omega), ?_⟩⟩
      rintro v n3 z3 f3 ⟨rfl, rfl, rfl, rfl⟩
      have skip : (o = t ∨ ybS S o = -1) → min fk (mnF (bdF S 1 t c) (o + 1)) = a ∧ cnt1 (nrP S 1 t c) (o + 1) = b := by
        intro h
        have hle := mnF_le (bdF S 1 t c) o
        rw [mnF, cnt1, show bdF S 1 t c o = 99 from if_pos (by rcases h with h | h; exact Or.inl h; exact Or.inr (Or.inl h)), if_neg (fun q => by rcases h with h | h; exact q.1 h; exact q.2.1 h)]
        omega
      refine wp_sound (by rw [hi]; exact ok_X2_measureAt) (hd := [8, 16, 34, 50, 97, 116, 125]) 400 _ _ _ _ _ _ ?_
      simp only [wp, stp, List.mem_cons, List.not_mem_nil, Nat.reduceEqDiff, or_false, or_self, false_or, or_true, true_or, Nat.reduceAdd, ↓reduceIte, List.getElem?_cons_zero, List.getElem?_cons_succ, nthV, List.set_cons_zero, List.set_cons_succ, noL, popA, catS, Value.category, List.length_cons, List.length_nil, Nat.reduceLT, Nat.reduceLeDiff, true_and, and_true, one0, zer1, imp_t, imp_f, ofN_nI, sdead, f20, f21, not_true_eq_false, upC_ap, upC_upC, retC, fitC, isRefT, Option.toList_some, Option.toList_none, List.cons_append, List.nil_append, Nat.lt_add_one, Nat.zero_lt_succ, Nat.le_refl, Nat.add_zero, Nat.zero_add, Nat.one_ne_zero, Nat.zero_ne_one, Nat.lt_irrefl, List.length_set, fa_X2_measureAt, hi, hd, hQ, mr_X2_measureAt, m1, m6]
      try simp only [m1f]
      try simp (disch := omega) only [nmod, nI_leI, nI_ltI, nI_eq, nI_clamp, vin_nI, nI_1, fa_lit, nI_add, nI_rm3, nI_rm2, pk_rem, pk_mul, pk_sub, pk_div, nI_eM, nI_Me, nI_pM, nI_pMz, nI_pM0, M1_lt, M1_le, nI_ltM, nI_leM, i8_nI, true_and, and_true, false_implies, true_implies, not_false_eq_true, not_true_eq_false, ne_eq, implies_true, Nat.not_lt_zero, Nat.zero_le]
      try simp only [m1u]
      refine ⟨fun h => h125 _ _ _ _ (skip (Or.inl h)).1.symm (skip (Or.inl h)).2.symm, fun hot => ⟨fun h => h125 _ _ _ _ (skip (Or.inr h)).1.symm (skip (Or.inr h)).2.symm, fun hy => ?_⟩⟩
      rcases hV o (by omega) with hy' | ⟨y, hgy, ey⟩
      · exact absurd hy' hy
      rw [ey]
      have hy1 : y < 100 := hgy.1.1
      have hcy : (nI y).toNatClampNeg = y := nI_clamp (by omega)
      have hiy : vp_in (nI y) 100 := (vin_nI (by omega)).mpr hy1
      simp only [m3, hcy, e3 y hy1]
      have hbd : bdF S 1 t c o = if kiS S t o then 99 else dN S 1 c y := by
        rw [bdF, ey, hcy]
        by_cases q : kiS S t o
        · rw [if_pos (Or.inr (Or.inr q)), if_pos q]
        · rw [if_neg (by rintro (r | r | r); exact hot r; rw [nI_em (by omega)] at r; exact r; exact q r), if_neg q]
      have hnr : nrP S 1 t c o ↔ dN S 1 c y ≤ 1 := by
        show (_ ∧ _ ∧ _) ↔ _
        rw [ey, hcy]
        exact ⟨fun q => q.2.2, fun q => ⟨hot, by rw [nI_em (by omega)]; exact id, q⟩⟩
      have hle := mnF_le (bdF S 1 t c) o
      refine ⟨Or.inl trivial, hiy, fun hm => ⟨Or.inl trivial, hiy, ?_⟩, fun hm => h125 _ _ _ _ ?_ ?_⟩
      · rcases wayS_in S 1 c y with q | ⟨m, hm1, hm2⟩
        · exact absurd q hm
        have hd : dN S 1 c y = m := by rw [dN, if_neg hm, hm2, nI_clamp (by omega)]
        rw [hd] at hbd hnr
        rw [hm2]
        have h97 : ∀ b, b = cnt1 (nrP S 1 t c) (o + 1) → V G X 97 [.ref 20, .int (nI t), .int (nI c), .ref p, .int (nI (tn S + mn S + 1)), .int (nI o), .int (nI y), .int (nI m)] [] n3 z3 (M a b) := by
          intro b hb
          refine wp_sound (by rw [hi]; exact ok_X2_measureAt) (hd := [8, 16, 34, 50, 97, 116, 125]) 400 _ _ _ _ _ _ ?_
          simp only [wp, stp, List.mem_cons, List.not_mem_nil, Nat.reduceEqDiff, or_false, or_self, false_or, or_true, true_or, Nat.reduceAdd, ↓reduceIte, List.getElem?_cons_zero, List.getElem?_cons_succ, nthV, List.set_cons_zero, List.set_cons_succ, noL, popA, catS, Value.category, List.length_cons, List.length_nil, Nat.reduceLT, Nat.reduceLeDiff, true_and, and_true, one0, zer1, imp_t, imp_f, ofN_nI, sdead, f20, f21, not_true_eq_false, upC_ap, upC_upC, retC, fitC, isRefT, Option.toList_some, Option.toList_none, List.cons_append, List.nil_append, Nat.lt_add_one, Nat.zero_lt_succ, Nat.le_refl, Nat.add_zero, Nat.zero_add, Nat.one_ne_zero, Nat.zero_ne_one, Nat.lt_irrefl, List.length_set, fa_X2_measureAt, hi, hd, hQ, mr_X2_measureAt, m1, m6]
          try simp only [m1f]
          try simp (disch := omega) only [nmod, nI_leI, nI_ltI, nI_eq, nI_clamp, vin_nI, nI_1, fa_lit, nI_add, nI_rm3, nI_rm2, pk_rem, pk_mul, pk_sub, pk_div, nI_eM, nI_Me, nI_pM, nI_pMz, nI_pM0, M1_lt, M1_le, nI_ltM, nI_leM, i8_nI, true_and, and_true, false_implies, true_implies, not_false_eq_true, not_true_eq_false, ne_eq, implies_true, Nat.not_lt_zero, Nat.zero_le]
          try simp only [m1u]
          refine ⟨fun h => h125 _ _ _ _ ?_ hb, fun h => ⟨by omega, _, t_areKin hG (m4 a b) hB (by omega) (by omega), ?_⟩⟩
          · rw [mnF, hbd]; split <;> omega
          · rintro v n4 z4 f4 ⟨rfl, rfl, rfl, rfl⟩
            refine wp_sound (by rw [hi]; exact ok_X2_measureAt) (hd := [8, 16, 34, 50, 97, 116, 125]) 400 _ _ _ _ _ _ ?_
            simp only [wp, stp, List.mem_cons, List.not_mem_nil, Nat.reduceEqDiff, or_false, or_self, false_or, or_true, true_or, Nat.reduceAdd, ↓reduceIte, List.getElem?_cons_zero, List.getElem?_cons_succ, nthV, List.set_cons_zero, List.set_cons_succ, noL, popA, catS, Value.category, List.length_cons, List.length_nil, Nat.reduceLT, Nat.reduceLeDiff, true_and, and_true, one0, zer1, imp_t, imp_f, ofN_nI, sdead, f20, f21, not_true_eq_false, upC_ap, upC_upC, retC, fitC, isRefT, Option.toList_some, Option.toList_none, List.cons_append, List.nil_append, Nat.lt_add_one, Nat.zero_lt_succ, Nat.le_refl, Nat.add_zero, Nat.zero_add, Nat.one_ne_zero, Nat.zero_ne_one, Nat.lt_irrefl, List.length_set, fa_X2_measureAt, hi, hd, hQ, mr_X2_measureAt, m1, m6, bI_0, m5]
            try simp only [m1f]
            try simp (disch := omega) only [nmod, nI_leI, nI_ltI, nI_eq, nI_clamp, vin_nI, nI_1, fa_lit, nI_add, nI_rm3, nI_rm2, pk_rem, pk_mul, pk_sub, pk_div, nI_eM, nI_Me, nI_pM, nI_pMz, nI_pM0, M1_lt, M1_le, nI_ltM, nI_leM, i8_nI, true_and, and_true, false_implies, true_implies, not_false_eq_true, not_true_eq_false, ne_eq, implies_true, Nat.not_lt_zero, Nat.zero_le]
            try simp only [m1u]
            refine ⟨fun h => h125 _ _ _ _ ?_ hb, fun h => h125 _ _ _ _ ?_ hb⟩
            · rw [mnF, hbd, if_pos (Decidable.not_not.mp h)]; omega
            · rw [mnF, hbd, if_neg h]; omega
        rw [nI_ltI (by omega) (by omega), m5]
        refine ⟨fun h => h97 b ?_, fun h => h97 (b + 1) ?_⟩
        · rw [cnt1, if_neg (fun q => absurd (hnr.mp q) (by omega))]; omega
        · rw [cnt1, if_pos (hnr.mpr (by omega))]; omega
      · rw [mnF, hbd, show dN S 1 c y = 99 from if_pos hm]; split <;> omega
      · rw [cnt1, if_neg (fun q => absurd (hnr.mp q) (by rw [show dN S 1 c y = 99 from if_pos hm]; omega))]; omega
  refine wp_sound (by rw [hi]; exact ok_X2_measureAt) (hd := [8, 16, 34, 50, 116]) 400 _ _ _ _ _ _ ?_
  simp only [wp, stp, List.mem_cons, List.not_mem_nil, Nat.reduceEqDiff, or_false, or_self, false_or, or_true, true_or, Nat.reduceAdd, ↓reduceIte, List.getElem?_cons_zero, List.getElem?_cons_succ, nthV, List.set_cons_zero, List.set_cons_succ, noL, popA, catS, Value.category, List.length_cons, List.length_nil, Nat.reduceLT, Nat.reduceLeDiff, true_and, and_true, one0, zer1, imp_t, imp_f, ofN_nI, sdead, f20, f21, not_true_eq_false, upC_ap, upC_upC, retC, fitC, isRefT, Option.toList_some, Option.toList_none, List.cons_append, List.nil_append, Nat.lt_add_one, Nat.zero_lt_succ, Nat.le_refl, Nat.add_zero, Nat.zero_add, Nat.one_ne_zero, Nat.zero_ne_one, Nat.lt_irrefl, List.length_set, fa_X2_measureAt, hi, hd, hQ, mr_X2_measureAt, hk1]
  try simp only [m1f]
  try simp (disch := omega) only [nmod, nI_leI, nI_ltI, nI_eq, nI_clamp, vin_nI, nI_1, fa_lit, nI_add, nI_rm3, nI_rm2, pk_rem, pk_mul, pk_sub, pk_div, nI_eM, nI_Me, nI_pM, nI_pMz, nI_pM0, M1_lt, M1_le, nI_ltM, nI_leM, i8_nI, true_and, and_true, false_implies, true_implies, not_false_eq_true, not_true_eq_false, ne_eq, implies_true, Nat.not_lt_zero, Nat.zero_le]
  try simp only [m1u]
  have := loop (tn S + mn S + 1) 0 fk 0 dead dead (by omega) (by rw [mnF]; omega) rfl
  rw [hM] at this
  exact this
theorem t_measureAt_22 (hG : Ok G) (hd1 : 2 ≤ d) (hB : Bd S) (hW : CW S L lp N Z K f n z) (hV : VB S) {bY kn fa0 ne0 : Int32} {fk : Nat} (hk : KV 22 16 f bY kn (nI fk) fa0 ne0) (hfk : fk ≤ 99) (ht : t < 100) (hc : gsN S c) : Tr G d 44 [.ref 22, .int (nI t), .int (nI c)] n z f (fun v n' z' f' => v = none ∧ CW S L lp N Z K f' n' z' ∧ KV 22 16 f' bY kn (nI fk) (nI (min fk (faA S 0 t c))) (nI (neA S 0 t c)) ∧ FRM [ 17, 18, 19, 22 ] f n f' ∧ n ≤ n') := by
  obtain ⟨g1, g2, w1, w2, w3, w4, w5⟩ := id hW.2.2.2.2.2.2
  obtain ⟨q1, q2, q3⟩ := id hW.2.2.1
  refine Tr.of2 (ls0 := [.ref 22, .int (nI t), .int (nI c), dead, dead, dead, dead, dead]) hG mo_X2_measureAt (Nat.le_of_ble_eq_true rfl) rfl ?_
  intro X hi hd hXn hXz hXf hQ
  unfold KV at hk
  obtain ⟨sg, qq, v1, -⟩ := id w2
  refine wp_sound (by rw [hi]; exact ok_X2_measureAt) (hd := [8, 16, 34, 50, 116]) 400 _ _ _ _ _ _ ?_
  simp only [wp, stp, List.mem_cons, List.not_mem_nil, Nat.reduceEqDiff, or_false, or_self, false_or, or_true, true_or, Nat.reduceAdd, ↓reduceIte, List.getElem?_cons_zero, List.getElem?_cons_succ, nthV, List.set_cons_zero, List.set_cons_succ, noL, popA, catS, Value.category, List.length_cons, List.length_nil, Nat.reduceLT, Nat.reduceLeDiff, true_and, and_true, one0, zer1, imp_t, imp_f, ofN_nI, sdead, f20, f21, not_true_eq_false, upC_ap, upC_upC, retC, fitC, isRefT, Option.toList_some, Option.toList_none, List.cons_append, List.nil_append, Nat.lt_add_one, Nat.zero_lt_succ, Nat.le_refl, Nat.add_zero, Nat.zero_add, Nat.one_ne_zero, Nat.zero_ne_one, Nat.lt_irrefl, List.length_set, fa_X2_measureAt, hi, hd, hQ, mr_X2_measureAt, hk, v1]
  try simp only [m1f]
  try simp (disch := omega) only [nmod, nI_leI, nI_ltI, nI_eq, nI_clamp, vin_nI, nI_1, fa_lit, nI_add, nI_rm3, nI_rm2, pk_rem, pk_mul, pk_sub, pk_div, nI_eM, nI_Me, nI_pM, nI_pMz, nI_pM0, M1_lt, M1_le, nI_ltM, nI_leM, i8_nI, true_and, and_true, false_implies, true_implies, not_false_eq_true, not_true_eq_false, ne_eq, implies_true, Nat.not_lt_zero, Nat.zero_le]
  try simp only [m1u]
  refine ⟨by omega, _, t_from_16 hG (by omega) hB hW.1 hW.2.1 w2 q1 hc.1.1 (hc.op 0) (by omega) (by omega), ?_⟩
  intro v n1 z1 f1 hF
  obtain ⟨p, r, rfl, e2, e3, hW1, hF1, hn1⟩ := CW.from_16 hW w1 w2 w3 w4 w5 hF
  have hk1 : f1 22 = _ := (hF1.1 22 (by omega) (by decide)).trans hk
  have hpk : ¬ p = 22 := fun e => by rw [e, hk1] at e2; cases e2
  have c1 := hW1.1.1
  refine wp_sound (by rw [hi]; exact ok_X2_measureAt) (hd := [8, 16, 34, 50, 116]) 400 _ _ _ _ _ _ ?_
  simp only [wp, stp, List.mem_cons, List.not_mem_nil, Nat.reduceEqDiff, or_false, or_self, false_or, or_true, true_or, Nat.reduceAdd, ↓reduceIte, List.getElem?_cons_zero, List.getElem?_cons_succ, nthV, List.set_cons_zero, List.set_cons_succ, noL, popA, catS, Value.category, List.length_cons, List.length_nil, Nat.reduceLT, Nat.reduceLeDiff, true_and, and_true, one0, zer1, imp_t, imp_f, ofN_nI, sdead, f20, f21, not_true_eq_false, upC_ap, upC_upC, retC, fitC, isRefT, Option.toList_some, Option.toList_none, List.cons_append, List.nil_append, Nat.lt_add_one, Nat.zero_lt_succ, Nat.le_refl, Nat.add_zero, Nat.zero_add, Nat.one_ne_zero, Nat.zero_ne_one, Nat.lt_irrefl, List.length_set, fa_X2_measureAt, hi, hd, hQ, mr_X2_measureAt, hk1, c1]
  try simp only [m1f]
  try simp (disch := omega) only [nmod, nI_leI, nI_ltI, nI_eq, nI_clamp, vin_nI, nI_1, fa_lit, nI_add, nI_rm3, nI_rm2, pk_rem, pk_mul, pk_sub, pk_div, nI_eM, nI_Me, nI_pM, nI_pMz, nI_pM0, M1_lt, M1_le, nI_ltM, nI_leM, i8_nI, true_and, and_true, false_implies, true_implies, not_false_eq_true, not_true_eq_false, ne_eq, implies_true, Nat.not_lt_zero, Nat.zero_le]
  try simp only [m1u]
  refine ⟨by omega, _, t_bodies hG hW1.1 hB, ?_⟩
  rintro v n2 z2 f2 ⟨rfl, rfl, rfl, rfl⟩
  obtain ⟨M, hM⟩ : ∃ M : Nat → Nat → Mf, M = fun a b => upC f2 22 (cO 2 [.ref 16, .int bY, .ref 1, .ref 23, .int kn, .int (nI fk), .int (nI a), .int (nI b)]) := ⟨_, rfl⟩
  have m1 : ∀ a b, M a b 22 = cO 2 [.ref 16, .int bY, .ref 1, .ref 23, .int kn, .int (nI fk), .int (nI a), .int (nI b)] := fun a b => by rw [hM]; exact upC_self _ _ _
  have m2 : ∀ a b x, ¬ x = 22 → M a b x = f2 x := fun a b x h => by rw [hM]; exact upC_ne _ _ h
  have m3 : ∀ a b, M a b p = cB 100 r := fun a b => by rw [m2 _ _ _ hpk]; exact e2
  have m4 : ∀ a b, CR S lp (M a b) := fun a b => hW1.1.off (fun k _ _ => m2 _ _ _ (by omega))
  have m5 : ∀ a b a' b', upC (M a b) 22 (cO 2 [.ref 16, .int bY, .ref 1, .ref 23, .int kn, .int (nI fk), .int (nI a'), .int (nI b')]) = M a' b' := fun a b a' b' => by rw [hM]; exact upC_upC _ _ _ _
  have m6 : ∀ a b, M a b 1 = cO 0 _ := fun a b => (m2 _ _ 1 (by omega)).trans c1
  obtain ⟨⟨-, b2⟩, ⟨-, b4⟩, -⟩ := id hB
  have fin : ∀ a b, a = min fk (faA S 0 t c) → b = neA S 0 t c → CW S L lp N Z K (M a b) n2 z2 ∧ KV 22 16 (M a b) bY kn (nI fk) (nI (min fk (faA S 0 t c))) (nI (neA S 0 t c)) ∧ FRM [ 17, 18, 19, 22 ] f n (M a b) ∧ n ≤ n2 := by
    rintro a b rfl rfl
    refine ⟨hW1.off (fun x hx => m2 _ _ _ (by omega)) (fun x hx => m2 _ _ _ (by omega)) ?_ ?_, m1 _ _, ?_, hn1⟩
    · exact hW1.2.2.2.2.1.cong (m2 _ _ _ (by omega)) (m2 _ _ _ (by omega))
    · refine ⟨⟨_, _, _, _, _, m1 _ _⟩, ?_⟩; obtain ⟨F, hF⟩ := hW1.2.2.2.2.2.1.2; exact ⟨F, by rw [m2 _ _ _ (by omega)]; exact hF⟩
    · rw [hM]
      exact (hF1.mono (fun x hx => by simp at hx ⊢; omega)).up (by omega) (by simp)
  have loop : ∀ k' o a b u6 u7, o + k' = tn S + mn S + 1 → a = min fk (mnF (bdF S 0 t c) o) → b = cnt1 (nrP S 0 t c) o → V G X 34 [.ref 22, .int (nI t), .int (nI c), .ref p, .int (nI (tn S + mn S + 1)), .int (nI o), u6, u7] [] n2 z2 (M a b) := by
    intro k'
    induction k' with
    | zero =>
      intro o a b u6 u7 ho ha hb
      have : o = tn S + mn S + 1 := by omega
      subst this
      refine wp_sound (by rw [hi]; exact ok_X2_measureAt) (hd := [8, 16, 34, 50, 116]) 400 _ _ _ _ _ _ ?_
      simp only [wp, stp, List.mem_cons, List.not_mem_nil, Nat.reduceEqDiff, or_false, or_self, false_or, or_true, true_or, Nat.reduceAdd, ↓reduceIte, List.getElem?_cons_zero, List.getElem?_cons_succ, nthV, List.set_cons_zero, List.set_cons_succ, noL, popA, catS, Value.category, List.length_cons, List.length_nil, Nat.reduceLT, Nat.reduceLeDiff, true_and, and_true, one0, zer1, imp_t, imp_f, ofN_nI, sdead, f20, f21, not_true_eq_false, upC_ap, upC_upC, retC, fitC, isRefT, Option.toList_some, Option.toList_none, List.cons_append, List.nil_append, Nat.lt_add_one, Nat.zero_lt_succ, Nat.le_refl, Nat.add_zero, Nat.zero_add, Nat.one_ne_zero, Nat.zero_ne_one, Nat.lt_irrefl, List.length_set, fa_X2_measureAt, hi, hd, hQ, mr_X2_measureAt, m1]
      try simp only [m1f]
      try simp (disch := omega) only [nmod, nI_leI, nI_ltI, nI_eq, nI_clamp, vin_nI, nI_1, fa_lit, nI_add, nI_rm3, nI_rm2, pk_rem, pk_mul, pk_sub, pk_div, nI_eM, nI_Me, nI_pM, nI_pMz, nI_pM0, M1_lt, M1_le, nI_ltM, nI_leM, i8_nI, true_and, and_true, false_implies, true_implies, not_false_eq_true, not_true_eq_false, ne_eq, implies_true, Nat.not_lt_zero, Nat.zero_le]
      try simp only [m1u]
      exact ⟨fun _ => fin a b ha hb, fun h => absurd (Nat.le_refl _) h⟩
    | succ k' ih =>
      intro o a b u6 u7 ho ha hb
      have hble := cnt1_le (nrP S 0 t c) o
      have hcl : (nI o).toNatClampNeg = o := nI_clamp (by omega)
      have h125 : ∀ a b u6 u7, a = min fk (mnF (bdF S 0 t c) (o + 1)) → b = cnt1 (nrP S 0 t c) (o + 1) → V G X 125 [.ref 22, .int (nI t), .int (nI c), .ref p, .int (nI (tn S + mn S + 1)), .int (nI o), u6, u7] [] n2 z2 (M a b) := by
        intro a b u6 u7 ha hb
        refine wp_sound (by rw [hi]; exact ok_X2_measureAt) (hd := [8, 16, 34, 50, 116]) 400 _ _ _ _ _ _ ?_
        simp only [wp, stp, List.mem_cons, List.not_mem_nil, Nat.reduceEqDiff, or_false, or_self, false_or, or_true, true_or, Nat.reduceAdd, ↓reduceIte, List.getElem?_cons_zero, List.getElem?_cons_succ, nthV, List.set_cons_zero, List.set_cons_succ, noL, popA, catS, Value.category, List.length_cons, List.length_nil, Nat.reduceLT, Nat.reduceLeDiff, true_and, and_true, one0, zer1, imp_t, imp_f, ofN_nI, sdead, f20, f21, not_true_eq_false, upC_ap, upC_upC, retC, fitC, isRefT, Option.toList_some, Option.toList_none, List.cons_append, List.nil_append, Nat.lt_add_one, Nat.zero_lt_succ, Nat.le_refl, Nat.add_zero, Nat.zero_add, Nat.one_ne_zero, Nat.zero_ne_one, Nat.lt_irrefl, List.length_set, fa_X2_measureAt, hi, hd, hQ, mr_X2_measureAt, m1]
        try simp only [m1f]
        try simp (disch := omega) only [nmod, nI_leI, nI_ltI, nI_eq, nI_clamp, vin_nI, nI_1, fa_lit, nI_add, nI_rm3, nI_rm2, pk_rem, pk_mul, pk_sub, pk_div, nI_eM, nI_Me, nI_pM, nI_pMz, nI_pM0, M1_lt, M1_le, nI_ltM, nI_leM, i8_nI, true_and, and_true, false_implies, true_implies, not_false_eq_true, not_true_eq_false, ne_eq, implies_true, Nat.not_lt_zero, Nat.zero_le]
        try simp only [m1u]
        exact ih (o + 1) a b u6 u7 (by omega) ha hb
      refine wp_sound (by rw [hi]; exact ok_X2_measureAt) (hd := [8, 16, 34, 50, 97, 116, 125]) 400 _ _ _ _ _ _ ?_
      simp only [wp, stp, List.mem_cons, List.not_mem_nil, Nat.reduceEqDiff, or_false, or_self, false_or, or_true, true_or, Nat.reduceAdd, ↓reduceIte, List.getElem?_cons_zero, List.getElem?_cons_succ, nthV, List.set_cons_zero, List.set_cons_succ, noL, popA, catS, Value.category, List.length_cons, List.length_nil, Nat.reduceLT, Nat.reduceLeDiff, true_and, and_true, one0, zer1, imp_t, imp_f, ofN_nI, sdead, f20, f21, not_true_eq_false, upC_ap, upC_upC, retC, fitC, isRefT, Option.toList_some, Option.toList_none, List.cons_append, List.nil_append, Nat.lt_add_one, Nat.zero_lt_succ, Nat.le_refl, Nat.add_zero, Nat.zero_add, Nat.one_ne_zero, Nat.zero_ne_one, Nat.lt_irrefl, List.length_set, fa_X2_measureAt, hi, hd, hQ, mr_X2_measureAt, m1, m6]
      try simp only [m1f]
      try simp (disch := omega) only [nmod, nI_leI, nI_ltI, nI_eq, nI_clamp, vin_nI, nI_1, fa_lit, nI_add, nI_rm3, nI_rm2, pk_rem, pk_mul, pk_sub, pk_div, nI_eM, nI_Me, nI_pM, nI_pMz, nI_pM0, M1_lt, M1_le, nI_ltM, nI_leM, i8_nI, true_and, and_true, false_implies, true_implies, not_false_eq_true, not_true_eq_false, ne_eq, implies_true, Nat.not_lt_zero, Nat.zero_le]
      try simp only [m1u]
      refine ⟨fun h => absurd h (by omega), fun _ => ⟨by omega, _, t_yardOfBody hG (m4 a b) hB (by omega), ?_⟩⟩
      rintro v n3 z3 f3 ⟨rfl, rfl, rfl, rfl⟩
      have skip : (o = t ∨ ybS S o = -1) → min fk (mnF (bdF S 0 t c) (o + 1)) = a ∧ cnt1 (nrP S 0 t c) (o + 1) = b := by
        intro h
        have hle := mnF_le (bdF S 0 t c) o
        rw [mnF, cnt1, show bdF S 0 t c o = 99 from if_pos (by rcases h with h | h; exact Or.inl h; exact Or.inr (Or.inl h)), if_neg (fun q => by rcases h with h | h; exact q.1 h; exact q.2.1 h)]
        omega
      refine wp_sound (by rw [hi]; exact ok_X2_measureAt) (hd := [8, 16, 34, 50, 97, 116, 125]) 400 _ _ _ _ _ _ ?_
      simp only [wp, stp, List.mem_cons, List.not_mem_nil, Nat.reduceEqDiff, or_false, or_self, false_or, or_true, true_or, Nat.reduceAdd, ↓reduceIte, List.getElem?_cons_zero, List.getElem?_cons_succ, nthV, List.set_cons_zero, List.set_cons_succ, noL, popA, catS, Value.category, List.length_cons, List.length_nil, Nat.reduceLT, Nat.reduceLeDiff, true_and, and_true, one0, zer1, imp_t, imp_f, ofN_nI, sdead, f20, f21, not_true_eq_false, upC_ap, upC_upC, retC, fitC, isRefT, Option.toList_some, Option.toList_none, List.cons_append, List.nil_append, Nat.lt_add_one, Nat.zero_lt_succ, Nat.le_refl, Nat.add_zero, Nat.zero_add, Nat.one_ne_zero, Nat.zero_ne_one, Nat.lt_irrefl, List.length_set, fa_X2_measureAt, hi, hd, hQ, mr_X2_measureAt, m1, m6]
      try simp only [m1f]
      try simp (disch := omega) only [nmod, nI_leI, nI_ltI, nI_eq, nI_clamp, vin_nI, nI_1, fa_lit, nI_add, nI_rm3, nI_rm2, pk_rem, pk_mul, pk_sub, pk_div, nI_eM, nI_Me, nI_pM, nI_pMz, nI_pM0, M1_lt, M1_le, nI_ltM, nI_leM, i8_nI, true_and, and_true, false_implies, true_implies, not_false_eq_true, not_true_eq_false, ne_eq, implies_true, Nat.not_lt_zero, Nat.zero_le]
      try simp only [m1u]
      refine ⟨fun h => h125 _ _ _ _ (skip (Or.inl h)).1.symm (skip (Or.inl h)).2.symm, fun hot => ⟨fun h => h125 _ _ _ _ (skip (Or.inr h)).1.symm (skip (Or.inr h)).2.symm, fun hy => ?_⟩⟩
      rcases hV o (by omega) with hy' | ⟨y, hgy, ey⟩
      · exact absurd hy' hy
      rw [ey]
      have hy1 : y < 100 := hgy.1.1
      have hcy : (nI y).toNatClampNeg = y := nI_clamp (by omega)
      have hiy : vp_in (nI y) 100 := (vin_nI (by omega)).mpr hy1
      simp only [m3, hcy, e3 y hy1]
      have hbd : bdF S 0 t c o = if kiS S t o then 99 else dN S 0 c y := by
        rw [bdF, ey, hcy]
        by_cases q : kiS S t o
        · rw [if_pos (Or.inr (Or.inr q)), if_pos q]
        · rw [if_neg (by rintro (r | r | r); exact hot r; rw [nI_em (by omega)] at r; exact r; exact q r), if_neg q]
      have hnr : nrP S 0 t c o ↔ dN S 0 c y ≤ 1 := by
        show (_ ∧ _ ∧ _) ↔ _
        rw [ey, hcy]
        exact ⟨fun q => q.2.2, fun q => ⟨hot, by rw [nI_em (by omega)]; exact id, q⟩⟩
      have hle := mnF_le (bdF S 0 t c) o
      refine ⟨Or.inl trivial, hiy, fun hm => ⟨Or.inl trivial, hiy, ?_⟩, fun hm => h125 _ _ _ _ ?_ ?_⟩
      · rcases wayS_in S 0 c y with q | ⟨m, hm1, hm2⟩
        · exact absurd q hm
        have hd : dN S 0 c y = m := by rw [dN, if_neg hm, hm2, nI_clamp (by omega)]
        rw [hd] at hbd hnr
        rw [hm2]
        have h97 : ∀ b, b = cnt1 (nrP S 0 t c) (o + 1) → V G X 97 [.ref 22, .int (nI t), .int (nI c), .ref p, .int (nI (tn S + mn S + 1)), .int (nI o), .int (nI y), .int (nI m)] [] n3 z3 (M a b) := by
          intro b hb
          refine wp_sound (by rw [hi]; exact ok_X2_measureAt) (hd := [8, 16, 34, 50, 97, 116, 125]) 400 _ _ _ _ _ _ ?_
          simp only [wp, stp, List.mem_cons, List.not_mem_nil, Nat.reduceEqDiff, or_false, or_self, false_or, or_true, true_or, Nat.reduceAdd, ↓reduceIte, List.getElem?_cons_zero, List.getElem?_cons_succ, nthV, List.set_cons_zero, List.set_cons_succ, noL, popA, catS, Value.category, List.length_cons, List.length_nil, Nat.reduceLT, Nat.reduceLeDiff, true_and, and_true, one0, zer1, imp_t, imp_f, ofN_nI, sdead, f20, f21, not_true_eq_false, upC_ap, upC_upC, retC, fitC, isRefT, Option.toList_some, Option.toList_none, List.cons_append, List.nil_append, Nat.lt_add_one, Nat.zero_lt_succ, Nat.le_refl, Nat.add_zero, Nat.zero_add, Nat.one_ne_zero, Nat.zero_ne_one, Nat.lt_irrefl, List.length_set, fa_X2_measureAt, hi, hd, hQ, mr_X2_measureAt, m1, m6]
          try simp only [m1f]
          try simp (disch := omega) only [nmod, nI_leI, nI_ltI, nI_eq, nI_clamp, vin_nI, nI_1, fa_lit, nI_add, nI_rm3, nI_rm2, pk_rem, pk_mul, pk_sub, pk_div, nI_eM, nI_Me, nI_pM, nI_pMz, nI_pM0, M1_lt, M1_le, nI_ltM, nI_leM, i8_nI, true_and, and_true, false_implies, true_implies, not_false_eq_true, not_true_eq_false, ne_eq, implies_true, Nat.not_lt_zero, Nat.zero_le]
          try simp only [m1u]
          refine ⟨fun h => h125 _ _ _ _ ?_ hb, fun h => ⟨by omega, _, t_areKin hG (m4 a b) hB (by omega) (by omega), ?_⟩⟩
          · rw [mnF, hbd]; split <;> omega
          · rintro v n4 z4 f4 ⟨rfl, rfl, rfl, rfl⟩
            refine wp_sound (by rw [hi]; exact ok_X2_measureAt) (hd := [8, 16, 34, 50, 97, 116, 125]) 400 _ _ _ _ _ _ ?_
            simp only [wp, stp, List.mem_cons, List.not_mem_nil, Nat.reduceEqDiff, or_false, or_self, false_or, or_true, true_or, Nat.reduceAdd, ↓reduceIte, List.getElem?_cons_zero, List.getElem?_cons_succ, nthV, List.set_cons_zero, List.set_cons_succ, noL, popA, catS, Value.category, List.length_cons, List.length_nil, Nat.reduceLT, Nat.reduceLeDiff, true_and, and_true, one0, zer1, imp_t, imp_f, ofN_nI, sdead, f20, f21, not_true_eq_false, upC_ap, upC_upC, retC, fitC, isRefT, Option.toList_some, Option.toList_none, List.cons_append, List.nil_append, Nat.lt_add_one, Nat.zero_lt_succ, Nat.le_refl, Nat.add_zero, Nat.zero_add, Nat.one_ne_zero, Nat.zero_ne_one, Nat.lt_irrefl, List.length_set, fa_X2_measureAt, hi, hd, hQ, mr_X2_measureAt, m1, m6, bI_0, m5]
            try simp only [m1f]
            try simp (disch := omega) only [nmod, nI_leI, nI_ltI, nI_eq, nI_clamp, vin_nI, nI_1, fa_lit, nI_add, nI_rm3, nI_rm2, pk_rem, pk_mul, pk_sub, pk_div, nI_eM, nI_Me, nI_pM, nI_pMz, nI_pM0, M1_lt, M1_le, nI_ltM, nI_leM, i8_nI, true_and, and_true, false_implies, true_implies, not_false_eq_true, not_true_eq_false, ne_eq, implies_true, Nat.not_lt_zero, Nat.zero_le]
            try simp only [m1u]
            refine ⟨fun h => h125 _ _ _ _ ?_ hb, fun h => h125 _ _ _ _ ?_ hb⟩
            · rw [mnF, hbd, if_pos (Decidable.not_not.mp h)]; omega
            · rw [mnF, hbd, if_neg h]; omega
        rw [nI_ltI (by omega) (by omega), m5]
        refine ⟨fun h => h97 b ?_, fun h => h97 (b + 1) ?_⟩
        · rw [cnt1, if_neg (fun q => absurd (hnr.mp q) (by omega))]; omega
        · rw [cnt1, if_pos (hnr.mpr (by omega))]; omega
      · rw [mnF, hbd, show dN S 0 c y = 99 from if_pos hm]; split <;> omega
      · rw [cnt1, if_neg (fun q => absurd (hnr.mp q) (by rw [show dN S 0 c y = 99 from if_pos hm]; omega))]; omega
  refine wp_sound (by rw [hi]; exact ok_X2_measureAt) (hd := [8, 16, 34, 50, 116]) 400 _ _ _ _ _ _ ?_
  simp only [wp, stp, List.mem_cons, List.not_mem_nil, Nat.reduceEqDiff, or_false, or_self, false_or, or_true, true_or, Nat.reduceAdd, ↓reduceIte, List.getElem?_cons_zero, List.getElem?_cons_succ, nthV, List.set_cons_zero, List.set_cons_succ, noL, popA, catS, Value.category, List.length_cons, List.length_nil, Nat.reduceLT, Nat.reduceLeDiff, true_and, and_true, one0, zer1, imp_t, imp_f, ofN_nI, sdead, f20, f21, not_true_eq_false, upC_ap, upC_upC, retC, fitC, isRefT, Option.toList_some, Option.toList_none, List.cons_append, List.nil_append, Nat.lt_add_one, Nat.zero_lt_succ, Nat.le_refl, Nat.add_zero, Nat.zero_add, Nat.one_ne_zero, Nat.zero_ne_one, Nat.lt_irrefl, List.length_set, fa_X2_measureAt, hi, hd, hQ, mr_X2_measureAt, hk1]
  try simp only [m1f]
  try simp (disch := omega) only [nmod, nI_leI, nI_ltI, nI_eq, nI_clamp, vin_nI, nI_1, fa_lit, nI_add, nI_rm3, nI_rm2, pk_rem, pk_mul, pk_sub, pk_div, nI_eM, nI_Me, nI_pM, nI_pMz, nI_pM0, M1_lt, M1_le, nI_ltM, nI_leM, i8_nI, true_and, and_true, false_implies, true_implies, not_false_eq_true, not_true_eq_false, ne_eq, implies_true, Nat.not_lt_zero, Nat.zero_le]
  try simp only [m1u]
  have := loop (tn S + mn S + 1) 0 fk 0 dead dead (by omega) (by rw [mnF]; omega) rfl
  rw [hM] at this
  exact this
end King1
