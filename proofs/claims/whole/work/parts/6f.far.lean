-- FarFromAnybody: ridding, sending, broken bridges, the night
set_option maxRecDepth 100000
set_option maxHeartbeats 4000000
section X8e
variable {G : Gam} {d : Nat} {S S' : Sta} {L : Lw} {lp N Z K n n' z z' tl i : Nat} {ro to ko : Option Nat} {tb : Nat → Nat} {fk fp : Int32} {kp : Option (Sta × Lw)} {f f' : Mf}
theorem tS_of (hB : Bd S) {k : Nat} (hk : k < tn S) : tS S (nI k) := by
  obtain ⟨⟨b1, b2⟩, -⟩ := hB
  unfold tS
  rw [b1]
  exact ⟨fun h => by have := (nI_ltI (a := k) (b := 0) (by omega) (by omega)).mp h; omega, fun h => by have := (nI_leI (by omega) (by omega)).mp h; omega⟩
noncomputable def ridR (S : Sta) (L : Lw) (a b : Int32) : Int32 := if (tS S a ∧ tS S b) ∧ ¬ a = b then nI (pyN (upS S 2 b.toNatClampNeg (-1)) L 1 a.toNatClampNeg) - nI (pyN S L 1 a.toNatClampNeg) else -100000
theorem t8_rid (hG : Ok G) (hd1 : 6 ≤ d) (h : XM S L lp N Z K ro to ko tb tl fk fp kp f n z) (a b : Int32) : Tr G d 108 [.ref 0, .int a, .int b] n z f (XQ S L lp N Z K ro to ko tb tl fk fp kp f (ridR S L a b)) := by
  have a0 := h.o
  have a1 := h.cr.at
  obtain ⟨⟨ta, hT⟩, -⟩ := h.2.2.1
  have hT' : f 28 = _ := hT
  have hk10 := h.bd.1.2
  refine Tr.of2 (ls0 := [.ref 0, .int a, .int b]) hG mo_X8_rid (Nat.le_of_ble_eq_true rfl) rfl ?_
  intro X hi hd hXn hXz hXf hQ
  have no : ¬ ((tS S a ∧ tS S b) ∧ ¬ a = b) → XQ S L lp N Z K ro to ko tb tl fk fp kp f (ridR S L a b) (some (.int (-100000))) n z f := fun q => by
    unfold ridR; rw [if_neg q]; exact ⟨rfl, h, RFX.refl f⟩
  refine wp_sound (by rw [hi]; exact ok_X8_rid) (hd := [8, 19, 40]) 400 _ _ _ _ _ _ ?_
  simp only [wp, stp, List.mem_cons, List.not_mem_nil, Nat.reduceEqDiff, or_false, or_self, false_or, or_true, true_or, Nat.reduceAdd, ↓reduceIte, List.getElem?_cons_zero, List.getElem?_cons_succ, nthV, List.set_cons_zero, List.set_cons_succ, noL, popA, catS, Value.category, List.length_cons, List.length_nil, Nat.reduceLT, Nat.reduceLeDiff, true_and, and_true, one0, zer1, imp_t, imp_f, ofN_nI, sdead, f20, f21, not_true_eq_false, upC_ap, upC_upC, retC, fitC, isRefT, Option.toList_some, Option.toList_none, List.cons_append, List.nil_append, Nat.lt_add_one, Nat.zero_lt_succ, Nat.le_refl, Nat.add_zero, Nat.zero_add, Nat.one_ne_zero, Nat.zero_ne_one, Nat.lt_irrefl, List.length_set, fa_X8_rid, hi, hd, hQ, mr_X8_rid, a0, a1]
  refine ⟨by omega, _, t_isTent hG h.cr a, ?_⟩
  rintro r n2 z2 f2 ⟨rfl, rfl, rfl, rfl⟩
  refine wp_sound (by rw [hi]; exact ok_X8_rid) (hd := [8, 19, 40]) 400 _ _ _ _ _ _ ?_
  simp only [wp, stp, List.mem_cons, List.not_mem_nil, Nat.reduceEqDiff, or_false, or_self, false_or, or_true, true_or, Nat.reduceAdd, ↓reduceIte, List.getElem?_cons_zero, List.getElem?_cons_succ, nthV, List.set_cons_zero, List.set_cons_succ, noL, popA, catS, Value.category, List.length_cons, List.length_nil, Nat.reduceLT, Nat.reduceLeDiff, true_and, and_true, one0, zer1, imp_t, imp_f, ofN_nI, sdead, f20, f21, not_true_eq_false, upC_ap, upC_upC, retC, fitC, isRefT, Option.toList_some, Option.toList_none, List.cons_append, List.nil_append, Nat.lt_add_one, Nat.zero_lt_succ, Nat.le_refl, Nat.add_zero, Nat.zero_add, Nat.one_ne_zero, Nat.zero_ne_one, Nat.lt_irrefl, List.length_set, fa_X8_rid, hi, hd, hQ, mr_X8_rid, a0, a1, bI_0]
  refine ⟨fun q => no (fun q2 => q q2.1.1), fun q => ⟨by omega, _, t_isTent hG h.cr b, ?_⟩⟩
  rintro r n2 z2 f2 ⟨rfl, rfl, rfl, rfl⟩
  refine wp_sound (by rw [hi]; exact ok_X8_rid) (hd := [8, 19, 40]) 400 _ _ _ _ _ _ ?_
  simp only [wp, stp, List.mem_cons, List.not_mem_nil, Nat.reduceEqDiff, or_false, or_self, false_or, or_true, true_or, Nat.reduceAdd, ↓reduceIte, List.getElem?_cons_zero, List.getElem?_cons_succ, nthV, List.set_cons_zero, List.set_cons_succ, noL, popA, catS, Value.category, List.length_cons, List.length_nil, Nat.reduceLT, Nat.reduceLeDiff, true_and, and_true, one0, zer1, imp_t, imp_f, ofN_nI, sdead, f20, f21, not_true_eq_false, upC_ap, upC_upC, retC, fitC, isRefT, Option.toList_some, Option.toList_none, List.cons_append, List.nil_append, Nat.lt_add_one, Nat.zero_lt_succ, Nat.le_refl, Nat.add_zero, Nat.zero_add, Nat.one_ne_zero, Nat.zero_ne_one, Nat.lt_irrefl, List.length_set, fa_X8_rid, hi, hd, hQ, mr_X8_rid, a0, a1, bI_0, hT']
  have qa := Decidable.not_not.mp q
  refine ⟨fun q2 => no (fun q3 => q2 q3.1.2), fun q2 => ?_⟩
  have qb := Decidable.not_not.mp q2
  obtain ⟨ka, hka, rfl⟩ := tS_nI h.bd qa
  obtain ⟨kb, hkb, rfl⟩ := tS_nI h.bd qb
  refine ⟨fun q3 => ⟨by omega, _, t_gainWithout2 hG (by omega) h.vk.1 h.cw hT hka hkb (fun e => q3 (by rw [e])), ?_⟩, fun q3 => no (fun q4 => q4.2 q3)⟩
  rintro r n3 z3 f3 ⟨rfl, hW, hF, hn⟩
  have hX := h.frm2 h.vk hW hF (by decide) hn
  have e : ridR S L (nI ka) (nI kb) = nI (pyN (upS S 2 kb (-1)) L 1 ka) - nI (pyN S L 1 ka) := by
    unfold ridR; rw [if_pos ⟨⟨qa, qb⟩, q3⟩, nI_clamp (by omega), nI_clamp (by omega)]
  rw [e] at hQ
  refine wp_sound (by rw [hi]; exact ok_X8_rid) (hd := [8, 19, 40]) 400 _ _ _ _ _ _ ?_
  simp only [wp, stp, List.mem_cons, List.not_mem_nil, Nat.reduceEqDiff, or_false, or_self, false_or, or_true, true_or, Nat.reduceAdd, ↓reduceIte, List.getElem?_cons_zero, List.getElem?_cons_succ, nthV, List.set_cons_zero, List.set_cons_succ, noL, popA, catS, Value.category, List.length_cons, List.length_nil, Nat.reduceLT, Nat.reduceLeDiff, true_and, and_true, one0, zer1, imp_t, imp_f, ofN_nI, sdead, f20, f21, not_true_eq_false, upC_ap, upC_upC, retC, fitC, isRefT, Option.toList_some, Option.toList_none, List.cons_append, List.nil_append, Nat.lt_add_one, Nat.zero_lt_succ, Nat.le_refl, Nat.add_zero, Nat.zero_add, Nat.one_ne_zero, Nat.zero_ne_one, Nat.lt_irrefl, List.length_set, fa_X8_rid, hi, hd, hQ, mr_X8_rid]
  exact ⟨rfl, hX⟩
noncomputable def brkR (S : Sta) (L : Lw) (t : Int32) : Int32 := if tS S t then nI (pyN S L 0 t.toNatClampNeg) - nI (pyN S L 1 t.toNatClampNeg) else -100000
theorem CW.kb22 (h : CW S L lp N Z K f n z) : ∃ bY, KB 22 16 f bY := by
  obtain ⟨⟨bY, kn, fk, fa, ne, hk⟩, -⟩ := h.2.2.2.2.2.1
  exact ⟨bY, kn, fk, fa, ne, hk⟩
theorem t8_broken (hG : Ok G) (hd1 : 6 ≤ d) (h : XM S L lp N Z K ro to ko tb tl fk fp kp f n z) (t : Int32) : Tr G d 110 [.ref 0, .int t] n z f (XQ S L lp N Z K ro to ko tb tl fk fp kp f (brkR S L t)) := by
  have a0 := h.o
  have a1 := h.cr.at
  have hk10 := h.bd.1.2
  obtain ⟨bY, hk⟩ := h.cw.kb22
  obtain ⟨kn0, fk0, fa0, ne0, hk0⟩ := id hk
  unfold KV at hk0
  refine Tr.of2 (ls0 := [.ref 0, .int t]) hG mo_X8_broken (Nat.le_of_ble_eq_true rfl) rfl ?_
  intro X hi hd hXn hXz hXf hQ
  refine wp_sound (by rw [hi]; exact ok_X8_broken) (hd := [8, 23, 31]) 400 _ _ _ _ _ _ ?_
  simp only [wp, stp, List.mem_cons, List.not_mem_nil, Nat.reduceEqDiff, or_false, or_self, false_or, or_true, true_or, Nat.reduceAdd, ↓reduceIte, List.getElem?_cons_zero, List.getElem?_cons_succ, nthV, List.set_cons_zero, List.set_cons_succ, noL, popA, catS, Value.category, List.length_cons, List.length_nil, Nat.reduceLT, Nat.reduceLeDiff, true_and, and_true, one0, zer1, imp_t, imp_f, ofN_nI, sdead, f20, f21, not_true_eq_false, upC_ap, upC_upC, retC, fitC, isRefT, Option.toList_some, Option.toList_none, List.cons_append, List.nil_append, Nat.lt_add_one, Nat.zero_lt_succ, Nat.le_refl, Nat.add_zero, Nat.zero_add, Nat.one_ne_zero, Nat.zero_ne_one, Nat.lt_irrefl, List.length_set, fa_X8_broken, hi, hd, hQ, mr_X8_broken, a0, a1]
  refine ⟨by omega, _, t_isTent hG h.cr t, ?_⟩
  rintro r n2 z2 f2 ⟨rfl, rfl, rfl, rfl⟩
  by_cases q : tS S t
  · obtain ⟨k, hkk, rfl⟩ := tS_nI h.bd q
    have e : brkR S L (nI k) = nI (pyN S L 0 k) - nI (pyN S L 1 k) := by unfold brkR; rw [if_pos q, nI_clamp (by omega)]
    rw [e] at hQ
    rw [bI_t q]
    refine wp_sound (by rw [hi]; exact ok_X8_broken) (hd := [8, 23, 31]) 400 _ _ _ _ _ _ ?_
    simp only [wp, stp, List.mem_cons, List.not_mem_nil, Nat.reduceEqDiff, or_false, or_self, false_or, or_true, true_or, Nat.reduceAdd, ↓reduceIte, List.getElem?_cons_zero, List.getElem?_cons_succ, nthV, List.set_cons_zero, List.set_cons_succ, noL, popA, catS, Value.category, List.length_cons, List.length_nil, Nat.reduceLT, Nat.reduceLeDiff, true_and, and_true, one0, zer1, imp_t, imp_f, ofN_nI, sdead, f20, f21, not_true_eq_false, upC_ap, upC_upC, retC, fitC, isRefT, Option.toList_some, Option.toList_none, List.cons_append, List.nil_append, Nat.lt_add_one, Nat.zero_lt_succ, Nat.le_refl, Nat.add_zero, Nat.zero_add, Nat.one_ne_zero, Nat.zero_ne_one, Nat.lt_irrefl, List.length_set, fa_X8_broken, hi, hd, hQ, mr_X8_broken, a0, a1, hk0]
    refine ⟨by omega, _, t_payOf_22 hG (by omega) h.bd h.cw h.vk.1.2.1 hk hkk (h.vk.1.2.2.1 k hkk), ?_⟩
    rintro r n3 z3 f3 ⟨rfl, hW, -, hF, hn⟩
    have hX := h.frm2 h.vk hW hF (by decide) hn
    obtain ⟨hX1, hX2⟩ := hX
    have a02 := hX1.o
    obtain ⟨bY2, hk2⟩ := hX1.cw.kb
    obtain ⟨kn1, fk1, fa1, ne1, hk20⟩ := id hk2
    unfold KV at hk20
    refine wp_sound (by rw [hi]; exact ok_X8_broken) (hd := [8, 23, 31]) 400 _ _ _ _ _ _ ?_
    simp only [wp, stp, List.mem_cons, List.not_mem_nil, Nat.reduceEqDiff, or_false, or_self, false_or, or_true, true_or, Nat.reduceAdd, ↓reduceIte, List.getElem?_cons_zero, List.getElem?_cons_succ, nthV, List.set_cons_zero, List.set_cons_succ, noL, popA, catS, Value.category, List.length_cons, List.length_nil, Nat.reduceLT, Nat.reduceLeDiff, true_and, and_true, one0, zer1, imp_t, imp_f, ofN_nI, sdead, f20, f21, not_true_eq_false, upC_ap, upC_upC, retC, fitC, isRefT, Option.toList_some, Option.toList_none, List.cons_append, List.nil_append, Nat.lt_add_one, Nat.zero_lt_succ, Nat.le_refl, Nat.add_zero, Nat.zero_add, Nat.one_ne_zero, Nat.zero_ne_one, Nat.lt_irrefl, List.length_set, fa_X8_broken, hi, hd, hQ, mr_X8_broken, a02, hk20]
    refine ⟨by omega, _, t_payOf_20 hG (by omega) h.bd hX1.cw h.vk.1.2.1 hk2 hkk (h.vk.1.2.2.1 k hkk), ?_⟩
    rintro r n4 z4 f4 ⟨rfl, hW4, -, hF4, hn4⟩
    have hX4 := hX1.frm2 h.vk hW4 hF4 (by decide) hn4
    refine wp_sound (by rw [hi]; exact ok_X8_broken) (hd := [8, 23, 31]) 400 _ _ _ _ _ _ ?_
    simp only [wp, stp, List.mem_cons, List.not_mem_nil, Nat.reduceEqDiff, or_false, or_self, false_or, or_true, true_or, Nat.reduceAdd, ↓reduceIte, List.getElem?_cons_zero, List.getElem?_cons_succ, nthV, List.set_cons_zero, List.set_cons_succ, noL, popA, catS, Value.category, List.length_cons, List.length_nil, Nat.reduceLT, Nat.reduceLeDiff, true_and, and_true, one0, zer1, imp_t, imp_f, ofN_nI, sdead, f20, f21, not_true_eq_false, upC_ap, upC_upC, retC, fitC, isRefT, Option.toList_some, Option.toList_none, List.cons_append, List.nil_append, Nat.lt_add_one, Nat.zero_lt_succ, Nat.le_refl, Nat.add_zero, Nat.zero_add, Nat.one_ne_zero, Nat.zero_ne_one, Nat.lt_irrefl, List.length_set, fa_X8_broken, hi, hd, hQ, mr_X8_broken]
    exact ⟨rfl, hX4.1, hX2.trans hX4.2⟩
  · have e : brkR S L t = -100000 := if_neg q
    rw [e] at hQ
    refine wp_sound (by rw [hi]; exact ok_X8_broken) (hd := [8, 23, 31]) 400 _ _ _ _ _ _ ?_
    simp only [wp, stp, List.mem_cons, List.not_mem_nil, Nat.reduceEqDiff, or_false, or_self, false_or, or_true, true_or, Nat.reduceAdd, ↓reduceIte, List.getElem?_cons_zero, List.getElem?_cons_succ, nthV, List.set_cons_zero, List.set_cons_succ, noL, popA, catS, Value.category, List.length_cons, List.length_nil, Nat.reduceLT, Nat.reduceLeDiff, true_and, and_true, one0, zer1, imp_t, imp_f, ofN_nI, sdead, f20, f21, not_true_eq_false, upC_ap, upC_upC, retC, fitC, isRefT, Option.toList_some, Option.toList_none, List.cons_append, List.nil_append, Nat.lt_add_one, Nat.zero_lt_succ, Nat.le_refl, Nat.add_zero, Nat.zero_add, Nat.one_ne_zero, Nat.zero_ne_one, Nat.lt_irrefl, List.length_set, fa_X8_broken, hi, hd, hQ, mr_X8_broken, bI_f q]
    first | exact ⟨rfl, h, RFX.refl _⟩ | exact fun _ => ⟨rfl, h, RFX.refl _⟩
noncomputable def nigR (S : Sta) (L : Lw) (w : Int32) : Int32 := if ¬ w < 0 ∧ w ≤ 2 then (if w.toInt = 0 then nI (nt2 S L (tn S)).1 else if w.toInt = 1 then (nt2 S L (tn S)).2.1 else (nt2 S L (tn S)).2.2) else -1
theorem t8_night (hG : Ok G) (hd1 : 8 ≤ d) (h : XM S L lp N Z K ro to ko tb tl fk fp kp f n z) (w : Int32) : Tr G d 112 [.ref 0, .int w] n z f (XQ S L lp N Z K ro to ko tb tl fk fp kp f (nigR S L w)) := by
  have a0 := h.o
  obtain ⟨⟨a, hT⟩, -⟩ := h.2.2.1
  have hT' : f 28 = _ := hT
  refine Tr.of2 (ls0 := [.ref 0, .int w]) hG mo_X8_night (Nat.le_of_ble_eq_true rfl) rfl ?_
  intro X hi hd hXn hXz hXf hQ
  have no : ¬ (¬ w < 0 ∧ w ≤ 2) → XQ S L lp N Z K ro to ko tb tl fk fp kp f (nigR S L w) (some (.int (-1))) n z f := fun q => by
    unfold nigR; rw [if_neg q]; exact ⟨rfl, h, RFX.refl f⟩
  refine wp_sound (by rw [hi]; exact ok_X8_night) (hd := [18]) 400 _ _ _ _ _ _ ?_
  simp only [wp, stp, List.mem_cons, List.not_mem_nil, Nat.reduceEqDiff, or_false, or_self, false_or, or_true, true_or, Nat.reduceAdd, ↓reduceIte, List.getElem?_cons_zero, List.getElem?_cons_succ, nthV, List.set_cons_zero, List.set_cons_succ, noL, popA, catS, Value.category, List.length_cons, List.length_nil, Nat.reduceLT, Nat.reduceLeDiff, true_and, and_true, one0, zer1, imp_t, imp_f, ofN_nI, sdead, f20, f21, not_true_eq_false, upC_ap, upC_upC, retC, fitC, isRefT, Option.toList_some, Option.toList_none, List.cons_append, List.nil_append, Nat.lt_add_one, Nat.zero_lt_succ, Nat.le_refl, Nat.add_zero, Nat.zero_add, Nat.one_ne_zero, Nat.zero_ne_one, Nat.lt_irrefl, List.length_set, fa_X8_night, hi, hd, hQ, mr_X8_night, a0, hT', tg_X8_night, swt, lks, Int.reduceAdd]
  refine ⟨fun q => no (fun q2 => q2.1 q), fun q => ⟨fun q2 => ⟨by omega, _, t_recallNight hG (by omega) h.vk.1 h.cw hT, ?_⟩, fun q2 => no (fun q3 => q2 q3.2)⟩⟩
  rintro r n2 z2 f2 ⟨rfl, hW, ⟨a', hT2, e6, e7, e8⟩, hF, hn⟩
  have hX := h.frm3 h.vk hW hF (by decide) hn ⟨a', hT2⟩
  have a02 := hX.1.o
  unfold TV at hT2
  have e : nigR S L w = (if w.toInt = 0 then nI (nt2 S L (tn S)).1 else if w.toInt = 1 then (nt2 S L (tn S)).2.1 else (nt2 S L (tn S)).2.2) := if_pos ⟨q, q2⟩
  rw [e] at hQ
  refine wp_sound (by rw [hi]; exact ok_X8_night) (hd := [18]) 400 _ _ _ _ _ _ ?_
  simp only [wp, stp, List.mem_cons, List.not_mem_nil, Nat.reduceEqDiff, or_false, or_self, false_or, or_true, true_or, Nat.reduceAdd, ↓reduceIte, List.getElem?_cons_zero, List.getElem?_cons_succ, nthV, List.set_cons_zero, List.set_cons_succ, noL, popA, catS, Value.category, List.length_cons, List.length_nil, Nat.reduceLT, Nat.reduceLeDiff, true_and, and_true, one0, zer1, imp_t, imp_f, ofN_nI, sdead, f20, f21, not_true_eq_false, upC_ap, upC_upC, retC, fitC, isRefT, Option.toList_some, Option.toList_none, List.cons_append, List.nil_append, Nat.lt_add_one, Nat.zero_lt_succ, Nat.le_refl, Nat.add_zero, Nat.zero_add, Nat.one_ne_zero, Nat.zero_ne_one, Nat.lt_irrefl, List.length_set, fa_X8_night, hi, hd, hQ, mr_X8_night, a02, hT2, tg_X8_night, swt, lks, Int.reduceAdd]
  refine ⟨fun q3 => ?_, fun q3 => ⟨fun q4 => ?_, fun q4 => ?_⟩⟩
  · rw [if_pos q3, e6]; exact ⟨rfl, hX⟩
  · rw [if_neg q3, if_pos q4, e7]; exact ⟨rfl, hX⟩
  · rw [if_neg q3, if_neg q4, e8]; exact ⟨rfl, hX⟩
noncomputable def senR (S : Sta) (L : Lw) (t w : Int32) : Int32 := if tS S t ∧ (w = 0 ∨ w = 1) then (if w = 0 then bye (S 2 t.toNatClampNeg).toNatClampNeg (snS S L t.toNatClampNeg 100) else mst (snS S L t.toNatClampNeg 100)) else -1
theorem t8_send (hG : Ok G) (hd1 : 8 ≤ d) (h : XM S L lp N Z K ro to ko tb tl fk fp kp f n z) (t w : Int32) : Tr G d 109 [.ref 0, .int t, .int w] n z f (XQ S L lp N Z K ro to ko tb tl fk fp kp f (senR S L t w)) := by
  have a0 := h.o
  have a1 := h.cr.at
  have hk10 := h.bd.1.2
  obtain ⟨⟨a, hT⟩, -⟩ := h.2.2.1
  have hT' : f 28 = _ := hT
  refine Tr.of2 (ls0 := [.ref 0, .int t, .int w]) hG mo_X8_send (Nat.le_of_ble_eq_true rfl) rfl ?_
  intro X hi hd hXn hXz hXf hQ
  have no : ¬ (tS S t ∧ (w = 0 ∨ w = 1)) → XQ S L lp N Z K ro to ko tb tl fk fp kp f (senR S L t w) (some (.int (-1))) n z f := fun q => by
    unfold senR; rw [if_neg q]; exact ⟨rfl, h, RFX.refl f⟩
  refine wp_sound (by rw [hi]; exact ok_X8_send) (hd := [8, 30]) 400 _ _ _ _ _ _ ?_
  simp only [wp, stp, List.mem_cons, List.not_mem_nil, Nat.reduceEqDiff, or_false, or_self, false_or, or_true, true_or, Nat.reduceAdd, ↓reduceIte, List.getElem?_cons_zero, List.getElem?_cons_succ, nthV, List.set_cons_zero, List.set_cons_succ, noL, popA, catS, Value.category, List.length_cons, List.length_nil, Nat.reduceLT, Nat.reduceLeDiff, true_and, and_true, one0, zer1, imp_t, imp_f, ofN_nI, sdead, f20, f21, not_true_eq_false, upC_ap, upC_upC, retC, fitC, isRefT, Option.toList_some, Option.toList_none, List.cons_append, List.nil_append, Nat.lt_add_one, Nat.zero_lt_succ, Nat.le_refl, Nat.add_zero, Nat.zero_add, Nat.one_ne_zero, Nat.zero_ne_one, Nat.lt_irrefl, List.length_set, fa_X8_send, hi, hd, hQ, mr_X8_send, a0, a1]
  refine ⟨by omega, _, t_isTent hG h.cr t, ?_⟩
  rintro r n2 z2 f2 ⟨rfl, rfl, rfl, rfl⟩
  by_cases q : tS S t
  · obtain ⟨k, hkk, rfl⟩ := tS_nI h.bd q
    by_cases q1 : w = 0 ∨ w = 1
    · have e : senR S L (nI k) w = (if w = 0 then bye (S 2 k).toNatClampNeg (snS S L k 100) else mst (snS S L k 100)) := by unfold senR; rw [if_pos ⟨q, q1⟩, nI_clamp (by omega)]
      rw [e] at hQ
      have L22 : V G X 22 [.ref 0, .int (nI k), .int w] [] n2 z2 f2 := by
        refine wp_sound (by rw [hi]; exact ok_X8_send) (hd := [8, 30]) 400 _ _ _ _ _ _ ?_
        simp only [wp, stp, List.mem_cons, List.not_mem_nil, Nat.reduceEqDiff, or_false, or_self, false_or, or_true, true_or, Nat.reduceAdd, ↓reduceIte, List.getElem?_cons_zero, List.getElem?_cons_succ, nthV, List.set_cons_zero, List.set_cons_succ, noL, popA, catS, Value.category, List.length_cons, List.length_nil, Nat.reduceLT, Nat.reduceLeDiff, true_and, and_true, one0, zer1, imp_t, imp_f, ofN_nI, sdead, f20, f21, not_true_eq_false, upC_ap, upC_upC, retC, fitC, isRefT, Option.toList_some, Option.toList_none, List.cons_append, List.nil_append, Nat.lt_add_one, Nat.zero_lt_succ, Nat.le_refl, Nat.add_zero, Nat.zero_add, Nat.one_ne_zero, Nat.zero_ne_one, Nat.lt_irrefl, List.length_set, fa_X8_send, hi, hd, hQ, mr_X8_send, a0, hT']
        refine ⟨by omega, _, t_findSending hG (by omega) h.vk.1 h.cw hT hkk, ?_⟩
        rintro r n3 z3 f3 ⟨rfl, hW, ⟨a', hT2, e4, e5⟩, hF, hn⟩
        have hX := h.frm3 h.vk hW hF (by decide) hn ⟨a', hT2⟩
        have a02 := hX.1.o
        unfold TV at hT2
        refine wp_sound (by rw [hi]; exact ok_X8_send) (hd := [8, 30]) 400 _ _ _ _ _ _ ?_
        simp only [wp, stp, List.mem_cons, List.not_mem_nil, Nat.reduceEqDiff, or_false, or_self, false_or, or_true, true_or, Nat.reduceAdd, ↓reduceIte, List.getElem?_cons_zero, List.getElem?_cons_succ, nthV, List.set_cons_zero, List.set_cons_succ, noL, popA, catS, Value.category, List.length_cons, List.length_nil, Nat.reduceLT, Nat.reduceLeDiff, true_and, and_true, one0, zer1, imp_t, imp_f, ofN_nI, sdead, f20, f21, not_true_eq_false, upC_ap, upC_upC, retC, fitC, isRefT, Option.toList_some, Option.toList_none, List.cons_append, List.nil_append, Nat.lt_add_one, Nat.zero_lt_succ, Nat.le_refl, Nat.add_zero, Nat.zero_add, Nat.one_ne_zero, Nat.zero_ne_one, Nat.lt_irrefl, List.length_set, fa_X8_send, hi, hd, hQ, mr_X8_send, a02, hT2]
        refine ⟨fun q2 => ?_, fun q2 => ?_⟩
        · rw [if_neg q2, e5]; exact ⟨rfl, hX⟩
        · rw [if_pos q2, e4]; exact ⟨rfl, hX⟩
      rw [bI_t q]
      refine wp_sound (by rw [hi]; exact ok_X8_send) (hd := [8, 22, 30]) 400 _ _ _ _ _ _ ?_
      simp only [wp, stp, List.mem_cons, List.not_mem_nil, Nat.reduceEqDiff, or_false, or_self, false_or, or_true, true_or, Nat.reduceAdd, ↓reduceIte, List.getElem?_cons_zero, List.getElem?_cons_succ, nthV, List.set_cons_zero, List.set_cons_succ, noL, popA, catS, Value.category, List.length_cons, List.length_nil, Nat.reduceLT, Nat.reduceLeDiff, true_and, and_true, one0, zer1, imp_t, imp_f, ofN_nI, sdead, f20, f21, not_true_eq_false, upC_ap, upC_upC, retC, fitC, isRefT, Option.toList_some, Option.toList_none, List.cons_append, List.nil_append, Nat.lt_add_one, Nat.zero_lt_succ, Nat.le_refl, Nat.add_zero, Nat.zero_add, Nat.one_ne_zero, Nat.zero_ne_one, Nat.lt_irrefl, List.length_set, fa_X8_send, hi, hd, hQ, mr_X8_send]
      exact ⟨fun _ => L22, fun _ => ⟨fun _ => L22, fun q2 => absurd q1 (fun q3 => q3.elim (by assumption) q2)⟩⟩
    · have no := no (fun q2 => q1 q2.2)
      rw [bI_t q]
      refine wp_sound (by rw [hi]; exact ok_X8_send) (hd := [8, 22, 30]) 400 _ _ _ _ _ _ ?_
      simp only [wp, stp, List.mem_cons, List.not_mem_nil, Nat.reduceEqDiff, or_false, or_self, false_or, or_true, true_or, Nat.reduceAdd, ↓reduceIte, List.getElem?_cons_zero, List.getElem?_cons_succ, nthV, List.set_cons_zero, List.set_cons_succ, noL, popA, catS, Value.category, List.length_cons, List.length_nil, Nat.reduceLT, Nat.reduceLeDiff, true_and, and_true, one0, zer1, imp_t, imp_f, ofN_nI, sdead, f20, f21, not_true_eq_false, upC_ap, upC_upC, retC, fitC, isRefT, Option.toList_some, Option.toList_none, List.cons_append, List.nil_append, Nat.lt_add_one, Nat.zero_lt_succ, Nat.le_refl, Nat.add_zero, Nat.zero_add, Nat.one_ne_zero, Nat.zero_ne_one, Nat.lt_irrefl, List.length_set, fa_X8_send, hi, hd, hQ, mr_X8_send]
      exact ⟨fun q2 => absurd (Or.inl q2) q1, fun _ => ⟨fun q2 => absurd (Or.inr q2) q1, fun _ => no⟩⟩
  · have no := no (fun q2 => q q2.1)
    refine wp_sound (by rw [hi]; exact ok_X8_send) (hd := [8, 30]) 400 _ _ _ _ _ _ ?_
    simp only [wp, stp, List.mem_cons, List.not_mem_nil, Nat.reduceEqDiff, or_false, or_self, false_or, or_true, true_or, Nat.reduceAdd, ↓reduceIte, List.getElem?_cons_zero, List.getElem?_cons_succ, nthV, List.set_cons_zero, List.set_cons_succ, noL, popA, catS, Value.category, List.length_cons, List.length_nil, Nat.reduceLT, Nat.reduceLeDiff, true_and, and_true, one0, zer1, imp_t, imp_f, ofN_nI, sdead, f20, f21, not_true_eq_false, upC_ap, upC_upC, retC, fitC, isRefT, Option.toList_some, Option.toList_none, List.cons_append, List.nil_append, Nat.lt_add_one, Nat.zero_lt_succ, Nat.le_refl, Nat.add_zero, Nat.zero_add, Nat.one_ne_zero, Nat.zero_ne_one, Nat.lt_irrefl, List.length_set, fa_X8_send, hi, hd, hQ, mr_X8_send, bI_f q]
    first | exact no | exact fun _ => no
end X8e
