-- FarFromAnybody: what is of a tent
set_option maxRecDepth 100000
set_option maxHeartbeats 4000000
section X8f
variable {G : Gam} {d : Nat} {S S' : Sta} {L : Lw} {lp N Z K n n' z z' tl i : Nat} {ro to ko : Option Nat} {tb : Nat → Nat} {fk fp : Int32} {kp : Option (Sta × Lw)} {f f' : Mf}
noncomputable def ofN (S : Sta) (L : Lw) (k : Nat) (w : Int32) : Int32 :=
  if w.toInt = 0 then S 2 k else if w.toInt = 1 then S 3 k else if w.toInt = 2 then S 4 k else if w.toInt = 3 then S 5 k else if w.toInt = 4 then S 6 k
  else if w.toInt = 5 then nI (min (fkN S 1 k) (faA S 1 k (S 2 k).toNatClampNeg)) else if w.toInt = 6 then nI (pyN S L 1 k)
  else if w.toInt = 7 then bye (S 2 k).toNatClampNeg (fsb S L k 10 (S 2 k).toNatClampNeg) else if w.toInt = 8 then mst (fsb S L k 10 (S 2 k).toNatClampNeg) else -1
noncomputable def ofR (S : Sta) (L : Lw) (t w : Int32) : Int32 := if tS S t then ofN S L t.toNatClampNeg w else -1
theorem t8_of (hG : Ok G) (hd1 : 6 ≤ d) (h : XM S L lp N Z K ro to ko tb tl fk fp kp f n z) (t w : Int32) : Tr G d 101 [.ref 0, .int t, .int w] n z f (XQ S L lp N Z K ro to ko tb tl fk fp kp f (ofR S L t w)) := by
  have a0 := h.o
  obtain ⟨a1, kd, ya, fa, mo, co, mv, tp, my, -, -, a3, a3', a4, a4', a5, a5', a6, a6', a7, a7', -⟩ := id h.cr
  have hk10 := h.bd.1.2
  obtain ⟨bY, hk⟩ := h.cw.kb
  obtain ⟨kn0, fk0, fa0, ne0, hk0⟩ := id hk
  unfold KV at hk0
  refine Tr.of2 (ls0 := [.ref 0, .int t, .int w]) hG mo_X8_of (Nat.le_of_ble_eq_true rfl) rfl ?_
  intro X hi hd hXn hXz hXf hQ
  refine wp_sound (by rw [hi]; exact ok_X8_of) (hd := [8, 122, 131, 142, 161]) 400 _ _ _ _ _ _ ?_
  simp only [wp, stp, List.mem_cons, List.not_mem_nil, Nat.reduceEqDiff, or_false, or_self, false_or, or_true, true_or, Nat.reduceAdd, ↓reduceIte, List.getElem?_cons_zero, List.getElem?_cons_succ, nthV, List.set_cons_zero, List.set_cons_succ, noL, popA, catS, Value.category, List.length_cons, List.length_nil, Nat.reduceLT, Nat.reduceLeDiff, true_and, and_true, one0, zer1, imp_t, imp_f, ofN_nI, sdead, f20, f21, not_true_eq_false, upC_ap, upC_upC, retC, fitC, isRefT, Option.toList_some, Option.toList_none, List.cons_append, List.nil_append, Nat.lt_add_one, Nat.zero_lt_succ, Nat.le_refl, Nat.add_zero, Nat.zero_add, Nat.one_ne_zero, Nat.zero_ne_one, Nat.lt_irrefl, List.length_set, fa_X8_of, hi, hd, hQ, mr_X8_of, a0, a1, tg_X8_of, swt, lks, Int.reduceAdd]
  refine ⟨by omega, _, t_isTent hG h.cr t, ?_⟩
  rintro r n2 z2 f2 ⟨rfl, rfl, rfl, rfl⟩
  by_cases q : tS S t
  · obtain ⟨k, hkk, rfl⟩ := tS_nI h.bd q
    have hcl : (nI k).toNatClampNeg = k := nI_clamp (by omega)
    have hin : vp_in (nI k) 10 := (vin_nI (by omega)).mpr (by omega)
    have e : ofR S L (nI k) w = ofN S L k w := by unfold ofR; rw [if_pos q, hcl]
    obtain ⟨c, hc, ec⟩ := h.vk.1.home hkk
    have ec2 : (S 2 k).toNatClampNeg = c := by rw [ec]; exact nI_clamp (by have := hc.1.1; omega)
    rw [e] at hQ
    rw [bI_t q]
    refine wp_sound (by rw [hi]; exact ok_X8_of) (hd := [8, 122, 131, 142, 161]) 400 _ _ _ _ _ _ ?_
    simp only [wp, stp, List.mem_cons, List.not_mem_nil, Nat.reduceEqDiff, or_false, or_self, false_or, or_true, true_or, Nat.reduceAdd, ↓reduceIte, List.getElem?_cons_zero, List.getElem?_cons_succ, nthV, List.set_cons_zero, List.set_cons_succ, noL, popA, catS, Value.category, List.length_cons, List.length_nil, Nat.reduceLT, Nat.reduceLeDiff, true_and, and_true, one0, zer1, imp_t, imp_f, ofN_nI, sdead, f20, f21, not_true_eq_false, upC_ap, upC_upC, retC, fitC, isRefT, Option.toList_some, Option.toList_none, List.cons_append, List.nil_append, Nat.lt_add_one, Nat.zero_lt_succ, Nat.le_refl, Nat.add_zero, Nat.zero_add, Nat.one_ne_zero, Nat.zero_ne_one, Nat.lt_irrefl, List.length_set, fa_X8_of, hi, hd, hQ, mr_X8_of, a0, a1, a3, a4, a5, a6, a7, hk0, hcl, tg_X8_of, swt, lks, Int.reduceAdd]
    refine ⟨fun q2 => ?_, fun q2 => ⟨hin, ?_⟩, fun q2 => ⟨hin, ?_⟩, fun q2 => ⟨hin, ?_⟩, fun q2 => ⟨hin, ?_⟩, fun q2 => ⟨hin, ?_⟩, fun q2 => ⟨by omega, _, t_farOf hG (by omega) h.bd h.cw h.vk.1.2.1 hk hkk (h.vk.1.2.2.1 k hkk), ?_⟩, fun q2 => ⟨by omega, _, t_payOf_20 hG (by omega) h.bd h.cw h.vk.1.2.1 hk hkk (h.vk.1.2.2.1 k hkk), ?_⟩, fun q2 => ⟨by omega, _, t_findBest hG (by omega) h.bd h.cw h.vk.1.2.1 hk hkk hc ec (R := 10) (Or.inl rfl), ?_⟩, fun q2 => ⟨by omega, _, t_findBest hG (by omega) h.bd h.cw h.vk.1.2.1 hk hkk hc ec (R := 10) (Or.inl rfl), ?_⟩⟩
    · exact ⟨by unfold ofN; rw [if_neg (by omega), if_neg (by omega), if_neg (by omega), if_neg (by omega), if_neg (by omega), if_neg (by omega), if_neg (by omega), if_neg (by omega), if_neg (by omega)], h, RFX.refl _⟩
    · exact ⟨by unfold ofN; rw [if_pos q2, a3' k hkk], h, RFX.refl _⟩
    · exact ⟨by unfold ofN; rw [if_neg (by omega), if_pos q2, a4' k hkk], h, RFX.refl _⟩
    · exact ⟨by unfold ofN; rw [if_neg (by omega), if_neg (by omega), if_pos q2, a5' k hkk], h, RFX.refl _⟩
    · exact ⟨by unfold ofN; rw [if_neg (by omega), if_neg (by omega), if_neg (by omega), if_pos q2, a6' k hkk], h, RFX.refl _⟩
    · exact ⟨by unfold ofN; rw [if_neg (by omega), if_neg (by omega), if_neg (by omega), if_neg (by omega), if_pos q2, a7' k hkk], h, RFX.refl _⟩
    · rintro r n3 z3 f3 ⟨rfl, hW, -, hF, hn⟩
      have hX := h.frm2 h.vk hW hF (by decide) hn
      have e2 : ofN S L k w = nI (min (fkN S 1 k) (faA S 1 k (S 2 k).toNatClampNeg)) := by unfold ofN; rw [if_neg (by omega), if_neg (by omega), if_neg (by omega), if_neg (by omega), if_neg (by omega), if_pos q2]
      rw [e2] at hQ
      refine wp_sound (by rw [hi]; exact ok_X8_of) (hd := [8, 122, 131, 142, 161]) 400 _ _ _ _ _ _ ?_
      simp only [wp, stp, List.mem_cons, List.not_mem_nil, Nat.reduceEqDiff, or_false, or_self, false_or, or_true, true_or, Nat.reduceAdd, ↓reduceIte, List.getElem?_cons_zero, List.getElem?_cons_succ, nthV, List.set_cons_zero, List.set_cons_succ, noL, popA, catS, Value.category, List.length_cons, List.length_nil, Nat.reduceLT, Nat.reduceLeDiff, true_and, and_true, one0, zer1, imp_t, imp_f, ofN_nI, sdead, f20, f21, not_true_eq_false, upC_ap, upC_upC, retC, fitC, isRefT, Option.toList_some, Option.toList_none, List.cons_append, List.nil_append, Nat.lt_add_one, Nat.zero_lt_succ, Nat.le_refl, Nat.add_zero, Nat.zero_add, Nat.one_ne_zero, Nat.zero_ne_one, Nat.lt_irrefl, List.length_set, fa_X8_of, hi, hd, hQ, mr_X8_of, tg_X8_of, swt, lks, Int.reduceAdd]
      exact ⟨rfl, hX⟩
    · rintro r n3 z3 f3 ⟨rfl, hW, -, hF, hn⟩
      have hX := h.frm2 h.vk hW hF (by decide) hn
      have e2 : ofN S L k w = nI (pyN S L 1 k) := by unfold ofN; rw [if_neg (by omega), if_neg (by omega), if_neg (by omega), if_neg (by omega), if_neg (by omega), if_neg (by omega), if_pos q2]
      rw [e2] at hQ
      refine wp_sound (by rw [hi]; exact ok_X8_of) (hd := [8, 122, 131, 142, 161]) 400 _ _ _ _ _ _ ?_
      simp only [wp, stp, List.mem_cons, List.not_mem_nil, Nat.reduceEqDiff, or_false, or_self, false_or, or_true, true_or, Nat.reduceAdd, ↓reduceIte, List.getElem?_cons_zero, List.getElem?_cons_succ, nthV, List.set_cons_zero, List.set_cons_succ, noL, popA, catS, Value.category, List.length_cons, List.length_nil, Nat.reduceLT, Nat.reduceLeDiff, true_and, and_true, one0, zer1, imp_t, imp_f, ofN_nI, sdead, f20, f21, not_true_eq_false, upC_ap, upC_upC, retC, fitC, isRefT, Option.toList_some, Option.toList_none, List.cons_append, List.nil_append, Nat.lt_add_one, Nat.zero_lt_succ, Nat.le_refl, Nat.add_zero, Nat.zero_add, Nat.one_ne_zero, Nat.zero_ne_one, Nat.lt_irrefl, List.length_set, fa_X8_of, hi, hd, hQ, mr_X8_of, tg_X8_of, swt, lks, Int.reduceAdd]
      exact ⟨rfl, hX⟩
    · rintro r n3 z3 f3 ⟨rfl, hW, ⟨kn1, fk1, fa1, ne1, hk1⟩, hF, hn⟩
      have hX := h.frm2 h.vk hW hF (by decide) hn
      have a02 := hX.1.o
      unfold KV at hk1
      have e2 : ofN S L k w = bye c (fsb S L k 10 c) := by unfold ofN; rw [if_neg (by omega), if_neg (by omega), if_neg (by omega), if_neg (by omega), if_neg (by omega), if_neg (by omega), if_neg (by omega), if_pos q2, ec2]
      rw [e2] at hQ
      refine wp_sound (by rw [hi]; exact ok_X8_of) (hd := [8, 122, 131, 142, 161]) 400 _ _ _ _ _ _ ?_
      simp only [wp, stp, List.mem_cons, List.not_mem_nil, Nat.reduceEqDiff, or_false, or_self, false_or, or_true, true_or, Nat.reduceAdd, ↓reduceIte, List.getElem?_cons_zero, List.getElem?_cons_succ, nthV, List.set_cons_zero, List.set_cons_succ, noL, popA, catS, Value.category, List.length_cons, List.length_nil, Nat.reduceLT, Nat.reduceLeDiff, true_and, and_true, one0, zer1, imp_t, imp_f, ofN_nI, sdead, f20, f21, not_true_eq_false, upC_ap, upC_upC, retC, fitC, isRefT, Option.toList_some, Option.toList_none, List.cons_append, List.nil_append, Nat.lt_add_one, Nat.zero_lt_succ, Nat.le_refl, Nat.add_zero, Nat.zero_add, Nat.one_ne_zero, Nat.zero_ne_one, Nat.lt_irrefl, List.length_set, fa_X8_of, hi, hd, hQ, mr_X8_of, a02, hk1, tg_X8_of, swt, lks, Int.reduceAdd]
      exact ⟨rfl, hX⟩
    · rintro r n3 z3 f3 ⟨rfl, hW, -, hF, hn⟩
      have hX := h.frm2 h.vk hW hF (by decide) hn
      have e2 : ofN S L k w = mst (fsb S L k 10 c) := by unfold ofN; rw [if_neg (by omega), if_neg (by omega), if_neg (by omega), if_neg (by omega), if_neg (by omega), if_neg (by omega), if_neg (by omega), if_neg (by omega), if_pos q2, ec2]
      rw [e2] at hQ
      refine wp_sound (by rw [hi]; exact ok_X8_of) (hd := [8, 122, 131, 142, 161]) 400 _ _ _ _ _ _ ?_
      simp only [wp, stp, List.mem_cons, List.not_mem_nil, Nat.reduceEqDiff, or_false, or_self, false_or, or_true, true_or, Nat.reduceAdd, ↓reduceIte, List.getElem?_cons_zero, List.getElem?_cons_succ, nthV, List.set_cons_zero, List.set_cons_succ, noL, popA, catS, Value.category, List.length_cons, List.length_nil, Nat.reduceLT, Nat.reduceLeDiff, true_and, and_true, one0, zer1, imp_t, imp_f, ofN_nI, sdead, f20, f21, not_true_eq_false, upC_ap, upC_upC, retC, fitC, isRefT, Option.toList_some, Option.toList_none, List.cons_append, List.nil_append, Nat.lt_add_one, Nat.zero_lt_succ, Nat.le_refl, Nat.add_zero, Nat.zero_add, Nat.one_ne_zero, Nat.zero_ne_one, Nat.lt_irrefl, List.length_set, fa_X8_of, hi, hd, hQ, mr_X8_of, tg_X8_of, swt, lks, Int.reduceAdd]
      exact ⟨rfl, hX⟩
  · have e : ofR S L t w = -1 := if_neg q
    rw [e] at hQ
    refine wp_sound (by rw [hi]; exact ok_X8_of) (hd := [8, 122, 131, 142, 161]) 400 _ _ _ _ _ _ ?_
    simp only [wp, stp, List.mem_cons, List.not_mem_nil, Nat.reduceEqDiff, or_false, or_self, false_or, or_true, true_or, Nat.reduceAdd, ↓reduceIte, List.getElem?_cons_zero, List.getElem?_cons_succ, nthV, List.set_cons_zero, List.set_cons_succ, noL, popA, catS, Value.category, List.length_cons, List.length_nil, Nat.reduceLT, Nat.reduceLeDiff, true_and, and_true, one0, zer1, imp_t, imp_f, ofN_nI, sdead, f20, f21, not_true_eq_false, upC_ap, upC_upC, retC, fitC, isRefT, Option.toList_some, Option.toList_none, List.cons_append, List.nil_append, Nat.lt_add_one, Nat.zero_lt_succ, Nat.le_refl, Nat.add_zero, Nat.zero_add, Nat.one_ne_zero, Nat.zero_ne_one, Nat.lt_irrefl, List.length_set, fa_X8_of, hi, hd, hQ, mr_X8_of, bI_f q, tg_X8_of, swt, lks, Int.reduceAdd]
    first | exact ⟨rfl, h, RFX.refl _⟩ | exact fun _ => ⟨rfl, h, RFX.refl _⟩
end X8f
