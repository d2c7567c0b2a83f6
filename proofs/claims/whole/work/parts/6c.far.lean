-- FarFromAnybody: set, the stranger, the tape, looks
set_option maxRecDepth 100000
set_option maxHeartbeats 4000000
section X8b
variable {G : Gam} {d : Nat} {S S' : Sta} {L : Lw} {lp N Z K n n' z z' tl i : Nat} {ro to ko : Option Nat} {tb : Nat → Nat} {fk fp : Int32} {kp : Option (Sta × Lw)} {f f' : Mf}
theorem CW.at0 (h : CW S L lp N Z K f n z) (c : Cel) : CW S L lp N Z K (upC f 0 c) n z := by
  obtain ⟨c1, c2, c3, ⟨sp, m, st, kd, vl, ⟨l1, l2⟩, ⟨l3, l4⟩, l5, l6, l7, l8⟩, k1, k2, g1, g2, w1, w2, w3, w4, w5⟩ := h
  have hf : ∀ y, ¬ y = 0 → upC f 0 c y = f y := fun y hy => upC_ne _ _ hy
  exact ⟨c1.off (fun k _ b => hf k (by omega)), c2.cong (fun y hy => hf y (by omega)), c3, ⟨sp, m, st, kd, vl, ⟨l1, l2⟩, ⟨l3, l4⟩, by rw [hf _ (by omega)]; exact l5, by rw [hf _ (by omega)]; exact l6, l7, l8⟩, k1.cong (hf _ (by omega)) (hf _ (by omega)), k2.cong (hf _ (by omega)) (hf _ (by omega)), g1, g2, w1.cong (Nat.le_refl _) (hf _ (by omega)) (hf _ (by omega)) (hf _ (by omega)) (hf _ (by omega)) (fun i p hi hp => hf p (by have := (w1.row hi hp).2.1; omega)), w2.cong (Nat.le_refl _) (hf _ (by omega)) (hf _ (by omega)) (hf _ (by omega)) (hf _ (by omega)) (fun i p hi hp => hf p (by have := (w2.row hi hp).2.1; omega)), w3, w4, w5⟩
/-- the object's own numbers -/
theorem XM.obj (h : XM S L lp N Z K ro to ko tb tl fk fp kp f n z) {tl' : Nat} {fk' fp' : Int32} {tb' : Nat → Nat} (hT : TpA f 30 tl' tb') : XM S L lp N Z K ro to ko tb' tl' fk' fp' kp (upC f 0 (cO 8 [.ref 1, .ref 12, .ref 16, .ref 20, .ref 22, .ref 24, .ref 28, .ref 30, .int (nI tl'), .int fk', .int fp', fO ro, fO to, fO ko])) n z ∧ RFX f (upC f 0 (cO 8 [.ref 1, .ref 12, .ref 16, .ref 20, .ref 22, .ref 24, .ref 28, .ref 30, .int (nI tl'), .int fk', .int fp', fO ro, fO to, fO ko])) := by
  obtain ⟨v1, ⟨m1, m2⟩, ⟨⟨a, t1⟩, ⟨wi, go, pa, t2⟩, st, t3⟩, ⟨w1, w2⟩, m3, ⟨b1, b2, b3⟩, b4⟩ := h
  obtain ⟨c, hc⟩ : ∃ c, c = cO 8 [.ref 1, .ref 12, .ref 16, .ref 20, .ref 22, .ref 24, .ref 28, .ref 30, .int (nI tl'), .int fk', .int fp', fO ro, fO to, fO ko] := ⟨_, rfl⟩
  rw [← hc]
  have hf : ∀ y, ¬ y = 0 → upC f 0 c y = f y := fun y hy => upC_ne _ _ hy
  have hF : FRM [0] f n (upC f 0 c) := ⟨fun x a b => hf x (by simp at b; omega), fun x a _ _ => hf x (by omega), fun x a => hf x (by omega)⟩
  have la := w1.2.2.2.1
  exact ⟨⟨v1, ⟨m1.old hF.2.2, hT.eq (hf 30 (by omega))⟩, ⟨⟨a, t1.cong (hf 28 (by omega))⟩, ⟨wi, go, pa, t2.cong (fun x a b => hf x (by omega))⟩, st, by rw [hf 29 (by omega)]; exact t3⟩, ⟨w1.at0 c, w2.frm hF (by decide) la.at.1 la.at.2⟩, by rw [upC_self]; exact hc, ⟨b1.frm hF (Nat.le_refl _), b2.frm hF (Nat.le_refl _), b3.frm hF (by decide) (Nat.le_refl _)⟩, b4⟩, fun x a b => hf x (by omega), hF.2.2⟩
theorem t8_fault (hG : Ok G) (h : XM S L lp N Z K ro to ko tb tl fk fp kp f n z) (w : Int32) : Tr G d 99 [.ref 0, .int w] n z f (XQ S L lp N Z K ro to ko tb tl fk fp kp f (if w.toInt = 0 then fk else if w.toInt = 1 then fp else -1)) := by
  have a0 := h.o
  refine Tr.of2 (ls0 := [.ref 0, .int w]) hG mo_X8_fault (Nat.le_of_ble_eq_true rfl) rfl ?_
  intro X hi hd hXn hXz hXf hQ
  refine wp_sound (by rw [hi]; exact ok_X8_fault) (hd := []) 400 _ _ _ _ _ _ ?_
  simp only [wp, stp, List.mem_cons, List.not_mem_nil, Nat.reduceEqDiff, or_false, or_self, false_or, or_true, true_or, Nat.reduceAdd, ↓reduceIte, List.getElem?_cons_zero, List.getElem?_cons_succ, nthV, List.set_cons_zero, List.set_cons_succ, noL, popA, catS, Value.category, List.length_cons, List.length_nil, Nat.reduceLT, Nat.reduceLeDiff, true_and, and_true, one0, zer1, imp_t, imp_f, ofN_nI, sdead, f20, f21, not_true_eq_false, upC_ap, upC_upC, retC, fitC, isRefT, Option.toList_some, Option.toList_none, List.cons_append, List.nil_append, Nat.lt_add_one, Nat.zero_lt_succ, Nat.le_refl, Nat.add_zero, Nat.zero_add, Nat.one_ne_zero, Nat.zero_ne_one, Nat.lt_irrefl, List.length_set, fa_X8_fault, hi, hd, hQ, mr_X8_fault, a0, tg_X8_fault, swt, lks, Int.reduceAdd]
  refine ⟨fun h0 => ?_, fun h0 => ⟨fun h1 => ?_, fun h1 => ?_⟩⟩
  · rw [if_pos h0]; exact ⟨rfl, h, RFX.refl f⟩
  · rw [if_neg h0, if_pos h1]; exact ⟨rfl, h, RFX.refl f⟩
  · rw [if_neg h0, if_neg h1]; exact ⟨rfl, h, RFX.refl f⟩
theorem XM.tp (h : XM S L lp N Z K ro to ko tb tl fk fp kp f n z) : TpA f 30 tl tb := h.2.1.2
theorem TpA.le {t2 : Nat} (h : TpA f 30 tl tb) (ht : t2 ≤ tl) : TpA f 30 t2 tb := by
  obtain ⟨g, a, b, c⟩ := h
  exact ⟨g, a, by omega, fun j hj => c j (by omega)⟩
theorem TpA.len (h : TpA f 30 tl tb) : tl ≤ 400 := by obtain ⟨g, a, b, c⟩ := h; exact b
theorem t8_end (hG : Ok G) (h : XM S L lp N Z K ro to ko tb tl fk fp kp f n z) (v : Int32) : Tr G d 97 [.ref 0, .int v] n z f (XQ S L lp N Z K ro to ko tb (if ¬ v < 0 ∧ v ≤ nI tl then v.toNatClampNeg else tl) fk fp kp f (bI (¬ v < 0 ∧ v ≤ nI tl))) := by
  have a0 := h.o
  have hl := h.tp.len
  refine Tr.of2 (ls0 := [.ref 0, .int v]) hG mo_X8_end (Nat.le_of_ble_eq_true rfl) rfl ?_
  intro X hi hd hXn hXz hXf hQ
  refine wp_sound (by rw [hi]; exact ok_X8_end) (hd := []) 400 _ _ _ _ _ _ ?_
  simp only [wp, stp, List.mem_cons, List.not_mem_nil, Nat.reduceEqDiff, or_false, or_self, false_or, or_true, true_or, Nat.reduceAdd, ↓reduceIte, List.getElem?_cons_zero, List.getElem?_cons_succ, nthV, List.set_cons_zero, List.set_cons_succ, noL, popA, catS, Value.category, List.length_cons, List.length_nil, Nat.reduceLT, Nat.reduceLeDiff, true_and, and_true, one0, zer1, imp_t, imp_f, ofN_nI, sdead, f20, f21, not_true_eq_false, upC_ap, upC_upC, retC, fitC, isRefT, Option.toList_some, Option.toList_none, List.cons_append, List.nil_append, Nat.lt_add_one, Nat.zero_lt_succ, Nat.le_refl, Nat.add_zero, Nat.zero_add, Nat.one_ne_zero, Nat.zero_ne_one, Nat.lt_irrefl, List.length_set, fa_X8_end, hi, hd, hQ, mr_X8_end, a0]
  refine ⟨fun h0 => ?_, fun h0 => ⟨fun h1 => ?_, fun h1 => ?_⟩⟩
  · rw [if_neg (fun q => q.1 h0), bI_f (fun q => q.1 h0)]; exact ⟨rfl, h, RFX.refl f⟩
  · rw [if_pos ⟨h0, h1⟩, bI_t ⟨h0, h1⟩]
    obtain ⟨j, hj, rfl⟩ := nI_of2 (M := nI tl) (n := tl) (nI_toInt (by omega)) h0 h1
    rw [nI_clamp (by omega)]
    exact ⟨rfl, h.obj (h.tp.le hj)⟩
  · rw [if_neg (fun q => h1 q.2), bI_f (fun q => h1 q.2)]; exact ⟨rfl, h, RFX.refl f⟩
/-- what a setting does -/
def setR (S : Sta) (w t v : Int32) : Sta × Int32 :=
  if w.toInt = 0 then (if ¬ v < 0 ∧ v ≤ 9999 then upS S 0 6 v else S, bI (¬ v < 0 ∧ v ≤ 9999))
  else if w.toInt = 1 then (if v = 0 ∨ v = 1 then upS S 0 7 v else S, bI (v = 0 ∨ v = 1))
  else if w.toInt = 2 then (if tS S t ∧ ¬ v < 0 ∧ ¬ 3 < v then upS S 4 t.toNatClampNeg v else S, bI (tS S t ∧ ¬ v < 0 ∧ ¬ 3 < v))
  else if w.toInt = 3 then (if tS S t ∧ csS S v t (S 3 t.toNatClampNeg) then upS S 2 t.toNatClampNeg v else S, bI (tS S t ∧ csS S v t (S 3 t.toNatClampNeg)))
  else (S, 0)
theorem t8_set (hG : Ok G) (hd1 : 4 ≤ d) (h : XM S L lp N Z K ro to ko tb tl fk fp kp f n z) (w t v : Int32) : Tr G d 95 [.ref 0, .int w, .int t, .int v] n z f (XQ (setR S w t v).1 L lp N Z K ro to ko tb tl fk fp kp f (setR S w t v).2) := by
  refine Tr.of2 (ls0 := [.ref 0, .int w, .int t, .int v]) hG mo_X8_set (Nat.le_of_ble_eq_true rfl) rfl ?_
  intro X hi hd hXn hXz hXf hQ
  have a0 := h.o
  refine wp_sound (by rw [hi]; exact ok_X8_set) (hd := [37, 43, 50, 57]) 400 _ _ _ _ _ _ ?_
  simp only [wp, stp, List.mem_cons, List.not_mem_nil, Nat.reduceEqDiff, or_false, or_self, false_or, or_true, true_or, Nat.reduceAdd, ↓reduceIte, List.getElem?_cons_zero, List.getElem?_cons_succ, nthV, List.set_cons_zero, List.set_cons_succ, noL, popA, catS, Value.category, List.length_cons, List.length_nil, Nat.reduceLT, Nat.reduceLeDiff, true_and, and_true, one0, zer1, imp_t, imp_f, ofN_nI, sdead, f20, f21, not_true_eq_false, upC_ap, upC_upC, retC, fitC, isRefT, Option.toList_some, Option.toList_none, List.cons_append, List.nil_append, Nat.lt_add_one, Nat.zero_lt_succ, Nat.le_refl, Nat.add_zero, Nat.zero_add, Nat.one_ne_zero, Nat.zero_ne_one, Nat.lt_irrefl, List.length_set, fa_X8_set, hi, hd, hQ, mr_X8_set, a0, tg_X8_set, swt, lks, Int.reduceAdd]
  refine ⟨fun q => ?_, fun q => ⟨by omega, _, t8_setFine hG h v, ?_⟩, fun q => ⟨by omega, _, t8_setAtOnce hG h v, ?_⟩, fun q => ⟨by omega, _, t8_setMode hG (by omega) h t v, ?_⟩, fun q => ⟨by omega, _, t8_putTent hG (by omega) h t v, ?_⟩⟩
  · have e : setR S w t v = (S, 0) := by unfold setR; rw [if_neg (by omega), if_neg (by omega), if_neg (by omega), if_neg (by omega)]
    rw [e]; exact ⟨rfl, h, RFX.refl f⟩
  · have e : setR S w t v = (if ¬ v < 0 ∧ v ≤ 9999 then upS S 0 6 v else S, bI (¬ v < 0 ∧ v ≤ 9999)) := by unfold setR; rw [if_pos q]
    rintro r n2 z2 f2 ⟨rfl, hX, hR⟩
    rw [e] at hQ
    refine wp_sound (by rw [hi]; exact ok_X8_set) (hd := [37, 43, 50, 57]) 400 _ _ _ _ _ _ ?_
    simp only [wp, stp, List.mem_cons, List.not_mem_nil, Nat.reduceEqDiff, or_false, or_self, false_or, or_true, true_or, Nat.reduceAdd, ↓reduceIte, List.getElem?_cons_zero, List.getElem?_cons_succ, nthV, List.set_cons_zero, List.set_cons_succ, noL, popA, catS, Value.category, List.length_cons, List.length_nil, Nat.reduceLT, Nat.reduceLeDiff, true_and, and_true, one0, zer1, imp_t, imp_f, ofN_nI, sdead, f20, f21, not_true_eq_false, upC_ap, upC_upC, retC, fitC, isRefT, Option.toList_some, Option.toList_none, List.cons_append, List.nil_append, Nat.lt_add_one, Nat.zero_lt_succ, Nat.le_refl, Nat.add_zero, Nat.zero_add, Nat.one_ne_zero, Nat.zero_ne_one, Nat.lt_irrefl, List.length_set, fa_X8_set, hi, hd, hQ, mr_X8_set, tg_X8_set, swt, lks, Int.reduceAdd]
    exact ⟨bI_01, rfl, hX, hR⟩
  · have e : setR S w t v = (if v = 0 ∨ v = 1 then upS S 0 7 v else S, bI (v = 0 ∨ v = 1)) := by unfold setR; rw [if_neg (by omega), if_pos q]
    rintro r n2 z2 f2 ⟨rfl, hX, hR⟩
    rw [e] at hQ
    refine wp_sound (by rw [hi]; exact ok_X8_set) (hd := [37, 43, 50, 57]) 400 _ _ _ _ _ _ ?_
    simp only [wp, stp, List.mem_cons, List.not_mem_nil, Nat.reduceEqDiff, or_false, or_self, false_or, or_true, true_or, Nat.reduceAdd, ↓reduceIte, List.getElem?_cons_zero, List.getElem?_cons_succ, nthV, List.set_cons_zero, List.set_cons_succ, noL, popA, catS, Value.category, List.length_cons, List.length_nil, Nat.reduceLT, Nat.reduceLeDiff, true_and, and_true, one0, zer1, imp_t, imp_f, ofN_nI, sdead, f20, f21, not_true_eq_false, upC_ap, upC_upC, retC, fitC, isRefT, Option.toList_some, Option.toList_none, List.cons_append, List.nil_append, Nat.lt_add_one, Nat.zero_lt_succ, Nat.le_refl, Nat.add_zero, Nat.zero_add, Nat.one_ne_zero, Nat.zero_ne_one, Nat.lt_irrefl, List.length_set, fa_X8_set, hi, hd, hQ, mr_X8_set, tg_X8_set, swt, lks, Int.reduceAdd]
    exact ⟨bI_01, rfl, hX, hR⟩
  · have e : setR S w t v = (if tS S t ∧ ¬ v < 0 ∧ ¬ 3 < v then upS S 4 t.toNatClampNeg v else S, bI (tS S t ∧ ¬ v < 0 ∧ ¬ 3 < v)) := by unfold setR; rw [if_neg (by omega), if_neg (by omega), if_pos q]
    rintro r n2 z2 f2 ⟨rfl, hX, hR⟩
    rw [e] at hQ
    refine wp_sound (by rw [hi]; exact ok_X8_set) (hd := [37, 43, 50, 57]) 400 _ _ _ _ _ _ ?_
    simp only [wp, stp, List.mem_cons, List.not_mem_nil, Nat.reduceEqDiff, or_false, or_self, false_or, or_true, true_or, Nat.reduceAdd, ↓reduceIte, List.getElem?_cons_zero, List.getElem?_cons_succ, nthV, List.set_cons_zero, List.set_cons_succ, noL, popA, catS, Value.category, List.length_cons, List.length_nil, Nat.reduceLT, Nat.reduceLeDiff, true_and, and_true, one0, zer1, imp_t, imp_f, ofN_nI, sdead, f20, f21, not_true_eq_false, upC_ap, upC_upC, retC, fitC, isRefT, Option.toList_some, Option.toList_none, List.cons_append, List.nil_append, Nat.lt_add_one, Nat.zero_lt_succ, Nat.le_refl, Nat.add_zero, Nat.zero_add, Nat.one_ne_zero, Nat.zero_ne_one, Nat.lt_irrefl, List.length_set, fa_X8_set, hi, hd, hQ, mr_X8_set, tg_X8_set, swt, lks, Int.reduceAdd]
    exact ⟨bI_01, rfl, hX, hR⟩
  · have e : setR S w t v = (if tS S t ∧ csS S v t (S 3 t.toNatClampNeg) then upS S 2 t.toNatClampNeg v else S, bI (tS S t ∧ csS S v t (S 3 t.toNatClampNeg))) := by unfold setR; rw [if_neg (by omega), if_neg (by omega), if_neg (by omega), if_pos q]
    rintro r n2 z2 f2 ⟨rfl, hX, hR⟩
    rw [e] at hQ
    refine wp_sound (by rw [hi]; exact ok_X8_set) (hd := [37, 43, 50, 57]) 400 _ _ _ _ _ _ ?_
    simp only [wp, stp, List.mem_cons, List.not_mem_nil, Nat.reduceEqDiff, or_false, or_self, false_or, or_true, true_or, Nat.reduceAdd, ↓reduceIte, List.getElem?_cons_zero, List.getElem?_cons_succ, nthV, List.set_cons_zero, List.set_cons_succ, noL, popA, catS, Value.category, List.length_cons, List.length_nil, Nat.reduceLT, Nat.reduceLeDiff, true_and, and_true, one0, zer1, imp_t, imp_f, ofN_nI, sdead, f20, f21, not_true_eq_false, upC_ap, upC_upC, retC, fitC, isRefT, Option.toList_some, Option.toList_none, List.cons_append, List.nil_append, Nat.lt_add_one, Nat.zero_lt_succ, Nat.le_refl, Nat.add_zero, Nat.zero_add, Nat.one_ne_zero, Nat.zero_ne_one, Nat.lt_irrefl, List.length_set, fa_X8_set, hi, hd, hQ, mr_X8_set, tg_X8_set, swt, lks, Int.reduceAdd]
    exact ⟨bI_01, rfl, hX, hR⟩
/-- what is told of a tent, from 20 on -/
def tolR (S : Sta) (w : Int32) : Int32 := if (¬ w < 20 ∧ ¬ 30 ≤ w) ∧ tS S (w - 20) then S 7 (w - 20).toNatClampNeg else -1
theorem t8_lookAtTold (hG : Ok G) (hd1 : 1 ≤ d) (h : XM S L lp N Z K ro to ko tb tl fk fp kp f n z) (w : Int32) : Tr G d 115 [.ref 0, .int w] n z f (Same (.int (tolR S w)) n z f) := by
  have a0 := h.o
  obtain ⟨a1, kd, ya, fa, mo, co, mv, tp, my, -, -, -, -, -, -, -, -, -, -, -, -, a8, a8', -⟩ := id h.cr
  refine Tr.of2 (ls0 := [.ref 0, .int w]) hG mo_X8_lookAtTold (Nat.le_of_ble_eq_true rfl) rfl ?_
  intro X hi hd hXn hXz hXf hQ
  refine wp_sound (by rw [hi]; exact ok_X8_lookAtTold) (hd := [23]) 400 _ _ _ _ _ _ ?_
  simp only [wp, stp, List.mem_cons, List.not_mem_nil, Nat.reduceEqDiff, or_false, or_self, false_or, or_true, true_or, Nat.reduceAdd, ↓reduceIte, List.getElem?_cons_zero, List.getElem?_cons_succ, nthV, List.set_cons_zero, List.set_cons_succ, noL, popA, catS, Value.category, List.length_cons, List.length_nil, Nat.reduceLT, Nat.reduceLeDiff, true_and, and_true, one0, zer1, imp_t, imp_f, ofN_nI, sdead, f20, f21, not_true_eq_false, upC_ap, upC_upC, retC, fitC, isRefT, Option.toList_some, Option.toList_none, List.cons_append, List.nil_append, Nat.lt_add_one, Nat.zero_lt_succ, Nat.le_refl, Nat.add_zero, Nat.zero_add, Nat.one_ne_zero, Nat.zero_ne_one, Nat.lt_irrefl, List.length_set, fa_X8_lookAtTold, hi, hd, hQ, mr_X8_lookAtTold, a0, a1]
  refine ⟨fun q => Same.i (if_neg (fun q2 => q2.1.1 q)).symm, fun q => ⟨fun q1 => Same.i (if_neg (fun q2 => q2.1.2 q1)).symm, fun q1 => ⟨hd1, _, t_isTent hG h.cr (w - 20), ?_⟩⟩⟩
  rintro r n2 z2 f2 ⟨rfl, rfl, rfl, rfl⟩
  by_cases q2 : tS S (w - 20)
  · obtain ⟨k, hk, ek⟩ := tS_nI h.bd q2
    have hk10 := h.bd.1.2
    have hkk : (nI k).toNatClampNeg = k := nI_clamp (by omega)
    have e : tolR S w = S 7 k := by unfold tolR; rw [if_pos ⟨⟨q, q1⟩, q2⟩, ek, hkk]
    rw [e] at hQ
    rw [bI_t q2]
    refine wp_sound (by rw [hi]; exact ok_X8_lookAtTold) (hd := [23]) 400 _ _ _ _ _ _ ?_
    simp only [wp, stp, List.mem_cons, List.not_mem_nil, Nat.reduceEqDiff, or_false, or_self, false_or, or_true, true_or, Nat.reduceAdd, ↓reduceIte, List.getElem?_cons_zero, List.getElem?_cons_succ, nthV, List.set_cons_zero, List.set_cons_succ, noL, popA, catS, Value.category, List.length_cons, List.length_nil, Nat.reduceLT, Nat.reduceLeDiff, true_and, and_true, one0, zer1, imp_t, imp_f, ofN_nI, sdead, f20, f21, not_true_eq_false, upC_ap, upC_upC, retC, fitC, isRefT, Option.toList_some, Option.toList_none, List.cons_append, List.nil_append, Nat.lt_add_one, Nat.zero_lt_succ, Nat.le_refl, Nat.add_zero, Nat.zero_add, Nat.one_ne_zero, Nat.zero_ne_one, Nat.lt_irrefl, List.length_set, fa_X8_lookAtTold, hi, hd, hQ, mr_X8_lookAtTold, a0, a1, a8, ek, hkk]
    exact ⟨(vin_nI (by omega)).mpr (by omega), Same.i (a8' k hk)⟩
  · have e : tolR S w = -1 := if_neg (fun q3 => q2 q3.2)
    rw [e] at hQ
    refine wp_sound (by rw [hi]; exact ok_X8_lookAtTold) (hd := [23]) 400 _ _ _ _ _ _ ?_
    simp only [wp, stp, List.mem_cons, List.not_mem_nil, Nat.reduceEqDiff, or_false, or_self, false_or, or_true, true_or, Nat.reduceAdd, ↓reduceIte, List.getElem?_cons_zero, List.getElem?_cons_succ, nthV, List.set_cons_zero, List.set_cons_succ, noL, popA, catS, Value.category, List.length_cons, List.length_nil, Nat.reduceLT, Nat.reduceLeDiff, true_and, and_true, one0, zer1, imp_t, imp_f, ofN_nI, sdead, f20, f21, not_true_eq_false, upC_ap, upC_upC, retC, fitC, isRefT, Option.toList_some, Option.toList_none, List.cons_append, List.nil_append, Nat.lt_add_one, Nat.zero_lt_succ, Nat.le_refl, Nat.add_zero, Nat.zero_add, Nat.one_ne_zero, Nat.zero_ne_one, Nat.lt_irrefl, List.length_set, fa_X8_lookAtTold, hi, hd, hQ, mr_X8_lookAtTold, bI_f q2]
    first | rfl | exact Same.i rfl | exact fun _ => Same.i rfl
theorem VB.str (h : VB S) {y : Int32} (hy : y = -1 ∨ ∃ c, gsN S c ∧ y = nI c) : VB (upS S 0 5 y) := by
  intro o ho
  have et : tn (upS S 0 5 y) = tn S := by unfold tn; rw [upS_0 (by omega)]
  have em : mn (upS S 0 5 y) = mn S := by unfold mn; rw [upS_0 (by omega)]
  have ew : wdt (upS S 0 5 y) = wdt S := by unfold wdt; rw [upS_0 (by omega)]
  have eh : hgt (upS S 0 5 y) = hgt S := by unfold hgt; rw [upS_0 (by omega)]
  have eg : ∀ c, gsN (upS S 0 5 y) c ↔ gsN S c := fun c => by unfold gsN; rw [ew, eh, upS_row (by omega)]
  rw [et, em] at ho
  by_cases q : o < tn S + mn S
  · have e : ybS (upS S 0 5 y) o = ybS S o := by
      unfold ybS
      rw [et, em, upS_row (by omega), upS_row (by omega), if_pos q, if_pos q]
    rw [e]
    rcases h o ho with r | ⟨c, r1, r2⟩
    · exact Or.inl r
    · exact Or.inr ⟨c, (eg c).mpr r1, r2⟩
  · have e : ybS (upS S 0 5 y) o = y := by
      unfold ybS
      rw [et, em, if_neg (by omega), if_neg q, upS_self]
    rw [e]
    rcases hy with r | ⟨c, r1, r2⟩
    · exact Or.inl r
    · exact Or.inr ⟨c, (eg c).mpr r1, r2⟩
theorem Vk.str (h : Vk S) {y : Int32} (hy : y = -1 ∨ grS S y) : Vk (upS S 0 5 y) := by
  obtain ⟨⟨⟨⟨b1, b2, b3⟩, a1'⟩, a2, a3, a4, a5, a6, a7⟩, a8⟩ := h
  have hB : Bd S := ⟨b1, b2, b3⟩
  have et : tn (upS S 0 5 y) = tn S := by unfold tn; rw [upS_0 (by omega)]
  have em : mn (upS S 0 5 y) = mn S := by unfold mn; rw [upS_0 (by omega)]
  refine ⟨⟨⟨?_, by rw [em]; exact a1'⟩, a2.str ?_, fun t ht => ?_, fun t ht => ?_, by rw [upS_0 (by omega)]; exact a5, by rw [upS_0 (by omega)]; exact a6, by rw [upS_row (by omega)]; exact a7⟩, by rw [upS_0 (by omega)]; exact a8⟩
  · unfold Bd
    rw [et, em, upS_0 (by omega), upS_0 (by omega), upS_0 (by omega), upS_0 (by omega)]
    exact hB
  · rcases hy with r | r
    · exact Or.inl r
    · obtain ⟨c, hc, rfl⟩ := inS_nI r.1
      exact Or.inr ⟨c, (gr_gs hB hc).mp r, rfl⟩
  · rw [et] at ht; rw [upS_row (by omega)]; exact a3 t ht
  · rw [et] at ht
    have := a4 t ht
    unfold csS grS inS manAtS clS at this ⊢
    rw [et, em, upS_0 (by omega), upS_0 (by omega), upS_row (by omega), upS_row (by omega), upS_row (by omega), upS_row (by omega)]
    exact this
theorem t8_stranger (hG : Ok G) (hd1 : 2 ≤ d) (h : XM S L lp N Z K ro to ko tb tl fk fp kp f n z) (y : Int32) : Tr G d 94 [.ref 0, .int y] n z f (XQ (if y = -1 ∨ grS S y then upS S 0 5 y else S) L lp N Z K ro to ko tb tl fk fp kp f (bI (y = -1 ∨ grS S y))) := by
  have a0 := h.o
  have a1 := h.cr.at
  have go : (y = -1 ∨ grS S y) → XM (upS S 0 5 y) L lp N Z K ro to ko tb tl fk fp kp (upC f 1 (cO 0 [.int (S 0 0), .int (S 0 1), .int (S 0 2), .ref 2, .int (S 0 3), .ref 3, .ref 4, .ref 5, .ref 6, .ref 7, .ref 8, .int (S 0 4), .ref 9, .int y, .int (S 0 6), .int (S 0 7), .int (S 0 8), .int (S 0 9), .ref lp])) n z ∧ RFX f (upC f 1 (cO 0 [.int (S 0 0), .int (S 0 1), .int (S 0 2), .ref 2, .int (S 0 3), .ref 3, .ref 4, .ref 5, .ref 6, .ref 7, .ref 8, .int (S 0 4), .ref 9, .int y, .int (S 0 6), .int (S 0 7), .int (S 0 8), .int (S 0 9), .ref lp])) := fun hv => h.camp (h.vk.str hv) (upS_0 (by omega)) (upS_0 (by omega)) (upS_row (by omega)) (h.cr.num_5 _) (fun x hx => upC_ne _ _ (by omega))
  refine Tr.of2 (ls0 := [.ref 0, .int y]) hG mo_X8_stranger (Nat.le_of_ble_eq_true rfl) rfl ?_
  intro X hi hd hXn hXz hXf hQ
  refine wp_sound (by rw [hi]; exact ok_X8_stranger) (hd := [13]) 400 _ _ _ _ _ _ ?_
  simp only [wp, stp, List.mem_cons, List.not_mem_nil, Nat.reduceEqDiff, or_false, or_self, false_or, or_true, true_or, Nat.reduceAdd, ↓reduceIte, List.getElem?_cons_zero, List.getElem?_cons_succ, nthV, List.set_cons_zero, List.set_cons_succ, noL, popA, catS, Value.category, List.length_cons, List.length_nil, Nat.reduceLT, Nat.reduceLeDiff, true_and, and_true, one0, zer1, imp_t, imp_f, ofN_nI, sdead, f20, f21, not_true_eq_false, upC_ap, upC_upC, retC, fitC, isRefT, Option.toList_some, Option.toList_none, List.cons_append, List.nil_append, Nat.lt_add_one, Nat.zero_lt_succ, Nat.le_refl, Nat.add_zero, Nat.zero_add, Nat.one_ne_zero, Nat.zero_ne_one, Nat.lt_irrefl, List.length_set, fa_X8_stranger, hi, hd, hQ, mr_X8_stranger, a0, a1]
  refine ⟨fun q => XQ.yes (Or.inl q) (go (Or.inl q)), fun q => ⟨by omega, _, t_isGrass hG (by omega) h.cr y, ?_⟩⟩
  rintro w n2 z2 f2 ⟨rfl, rfl, rfl, rfl⟩
  refine wp_sound (by rw [hi]; exact ok_X8_stranger) (hd := [13]) 400 _ _ _ _ _ _ ?_
  simp only [wp, stp, List.mem_cons, List.not_mem_nil, Nat.reduceEqDiff, or_false, or_self, false_or, or_true, true_or, Nat.reduceAdd, ↓reduceIte, List.getElem?_cons_zero, List.getElem?_cons_succ, nthV, List.set_cons_zero, List.set_cons_succ, noL, popA, catS, Value.category, List.length_cons, List.length_nil, Nat.reduceLT, Nat.reduceLeDiff, true_and, and_true, one0, zer1, imp_t, imp_f, ofN_nI, sdead, f20, f21, not_true_eq_false, upC_ap, upC_upC, retC, fitC, isRefT, Option.toList_some, Option.toList_none, List.cons_append, List.nil_append, Nat.lt_add_one, Nat.zero_lt_succ, Nat.le_refl, Nat.add_zero, Nat.zero_add, Nat.one_ne_zero, Nat.zero_ne_one, Nat.lt_irrefl, List.length_set, fa_X8_stranger, hi, hd, hQ, mr_X8_stranger, bI_0, a0, a1]
  exact ⟨fun q2 => XQ.yes (Or.inr (Decidable.not_not.mp q2)) (go (Or.inr (Decidable.not_not.mp q2))), fun q2 => XQ.no (fun q3 => q3.elim q q2) h⟩
/-- a look -/
def lokR (S : Sta) (L : Lw) (w : Int32) : Int32 :=
  if w.toInt = 0 then S 0 0 else if w.toInt = 1 then S 0 1 else if w.toInt = 2 then S 0 3 else if w.toInt = 3 then S 0 4 else if w.toInt = 4 then S 0 5 else if w.toInt = 5 then S 0 6 else if w.toInt = 6 then S 0 7 else if w.toInt = 7 then S 0 8 else if w.toInt = 8 then S 0 9 else if w.toInt = 9 then S 0 2 else if w.toInt = 10 then L.1 else tolR S w
theorem t8_look (hG : Ok G) (hd1 : 2 ≤ d) (h : XM S L lp N Z K ro to ko tb tl fk fp kp f n z) (w : Int32) : Tr G d 114 [.ref 0, .int w] n z f (Same (.int (lokR S L w)) n z f) := by
  have a0 := h.o
  have a1 := h.cr.at
  have al : f lp = cO 3 [.int L.1, .int L.2.1, .ref (lp + 1)] := h.2.2.2.1.2
  have h7 := h.vk.1.2.2.2.2.2.1
  refine Tr.of2 (ls0 := [.ref 0, .int w]) hG mo_X8_look (Nat.le_of_ble_eq_true rfl) rfl ?_
  intro X hi hd hXn hXz hXf hQ
  refine wp_sound (by rw [hi]; exact ok_X8_look) (hd := [164]) 400 _ _ _ _ _ _ ?_
  simp only [wp, stp, List.mem_cons, List.not_mem_nil, Nat.reduceEqDiff, or_false, or_self, false_or, or_true, true_or, Nat.reduceAdd, ↓reduceIte, List.getElem?_cons_zero, List.getElem?_cons_succ, nthV, List.set_cons_zero, List.set_cons_succ, noL, popA, catS, Value.category, List.length_cons, List.length_nil, Nat.reduceLT, Nat.reduceLeDiff, true_and, and_true, one0, zer1, imp_t, imp_f, ofN_nI, sdead, f20, f21, not_true_eq_false, upC_ap, upC_upC, retC, fitC, isRefT, Option.toList_some, Option.toList_none, List.cons_append, List.nil_append, Nat.lt_add_one, Nat.zero_lt_succ, Nat.le_refl, Nat.add_zero, Nat.zero_add, Nat.one_ne_zero, Nat.zero_ne_one, Nat.lt_irrefl, List.length_set, fa_X8_look, hi, hd, hQ, mr_X8_look, a0, a1, al, tg_X8_look, swt, lks, Int.reduceAdd]
  refine ⟨fun q => ⟨by omega, _, t8_lookAtTold hG (by omega) h w, ?_⟩, fun q => Same.i (by unfold lokR; simp [q]), fun q => Same.i (by unfold lokR; simp [q]), fun q => Same.i (by unfold lokR; simp [q]), fun q => Same.i (by unfold lokR; simp [q]), fun q => Same.i (by unfold lokR; simp [q]), fun q => Same.i (by unfold lokR; simp [q]), fun q => ⟨fun q7 => Same.i (by unfold lokR; simp [q, q7]), fun q7 => Same.i (by unfold lokR; simp [q]; exact (h7.resolve_left q7).symm)⟩, fun q => Same.i (by unfold lokR; simp [q]), fun q => Same.i (by unfold lokR; simp [q]), fun q => Same.i (by unfold lokR; simp [q]), fun q => Same.i (by unfold lokR; simp [q])⟩
  rintro r n2 z2 f2 ⟨rfl, rfl, rfl, rfl⟩
  have e : lokR S L w = tolR S w := by
    unfold lokR
    rw [if_neg (by omega), if_neg (by omega), if_neg (by omega), if_neg (by omega), if_neg (by omega), if_neg (by omega), if_neg (by omega), if_neg (by omega), if_neg (by omega), if_neg (by omega), if_neg (by omega)]
  rw [e] at hQ
  refine wp_sound (by rw [hi]; exact ok_X8_look) (hd := [164]) 400 _ _ _ _ _ _ ?_
  simp only [wp, stp, List.mem_cons, List.not_mem_nil, Nat.reduceEqDiff, or_false, or_self, false_or, or_true, true_or, Nat.reduceAdd, ↓reduceIte, List.getElem?_cons_zero, List.getElem?_cons_succ, nthV, List.set_cons_zero, List.set_cons_succ, noL, popA, catS, Value.category, List.length_cons, List.length_nil, Nat.reduceLT, Nat.reduceLeDiff, true_and, and_true, one0, zer1, imp_t, imp_f, ofN_nI, sdead, f20, f21, not_true_eq_false, upC_ap, upC_upC, retC, fitC, isRefT, Option.toList_some, Option.toList_none, List.cons_append, List.nil_append, Nat.lt_add_one, Nat.zero_lt_succ, Nat.le_refl, Nat.add_zero, Nat.zero_add, Nat.one_ne_zero, Nat.zero_ne_one, Nat.lt_irrefl, List.length_set, fa_X8_look, hi, hd, hQ, mr_X8_look, tg_X8_look, swt, lks, Int.reduceAdd]
  exact Same.i rfl
/-- what is at a yard -/
def atR (S : Sta) (y w : Int32) : Int32 := if inS S y then (if w.toInt = 0 then S 1 y.toNatClampNeg else if w.toInt = 1 then tentAtS S y else if w.toInt = 2 then manAtS S y else -2) else -2
theorem t8_at (hG : Ok G) (hd1 : 2 ≤ d) (h : XM S L lp N Z K ro to ko tb tl fk fp kp f n z) (y w : Int32) : Tr G d 103 [.ref 0, .int y, .int w] n z f (Same (.int (atR S y w)) n z f) := by
  have a0 := h.o
  obtain ⟨a1, kd, ya, fa, mo, co, mv, tp, my, a2, a2', -⟩ := id h.cr
  refine Tr.of2 (ls0 := [.ref 0, .int y, .int w]) hG mo_X8_at (Nat.le_of_ble_eq_true rfl) rfl ?_
  intro X hi hd hXn hXz hXf hQ
  refine wp_sound (by rw [hi]; exact ok_X8_at) (hd := [8, 58, 67]) 400 _ _ _ _ _ _ ?_
  simp only [wp, stp, List.mem_cons, List.not_mem_nil, Nat.reduceEqDiff, or_false, or_self, false_or, or_true, true_or, Nat.reduceAdd, ↓reduceIte, List.getElem?_cons_zero, List.getElem?_cons_succ, nthV, List.set_cons_zero, List.set_cons_succ, noL, popA, catS, Value.category, List.length_cons, List.length_nil, Nat.reduceLT, Nat.reduceLeDiff, true_and, and_true, one0, zer1, imp_t, imp_f, ofN_nI, sdead, f20, f21, not_true_eq_false, upC_ap, upC_upC, retC, fitC, isRefT, Option.toList_some, Option.toList_none, List.cons_append, List.nil_append, Nat.lt_add_one, Nat.zero_lt_succ, Nat.le_refl, Nat.add_zero, Nat.zero_add, Nat.one_ne_zero, Nat.zero_ne_one, Nat.lt_irrefl, List.length_set, fa_X8_at, hi, hd, hQ, mr_X8_at, a0, a1, tg_X8_at, swt, lks, Int.reduceAdd]
  refine ⟨by omega, _, t_inside hG h.cr y, ?_⟩
  rintro r n2 z2 f2 ⟨rfl, rfl, rfl, rfl⟩
  by_cases q : inS S y
  · obtain ⟨v1, v2⟩ := inS_100 q
    have e : atR S y w = (if w.toInt = 0 then S 1 y.toNatClampNeg else if w.toInt = 1 then tentAtS S y else if w.toInt = 2 then manAtS S y else -2) := if_pos q
    rw [e] at hQ
    rw [bI_t q]
    refine wp_sound (by rw [hi]; exact ok_X8_at) (hd := [8, 58, 67]) 400 _ _ _ _ _ _ ?_
    simp only [wp, stp, List.mem_cons, List.not_mem_nil, Nat.reduceEqDiff, or_false, or_self, false_or, or_true, true_or, Nat.reduceAdd, ↓reduceIte, List.getElem?_cons_zero, List.getElem?_cons_succ, nthV, List.set_cons_zero, List.set_cons_succ, noL, popA, catS, Value.category, List.length_cons, List.length_nil, Nat.reduceLT, Nat.reduceLeDiff, true_and, and_true, one0, zer1, imp_t, imp_f, ofN_nI, sdead, f20, f21, not_true_eq_false, upC_ap, upC_upC, retC, fitC, isRefT, Option.toList_some, Option.toList_none, List.cons_append, List.nil_append, Nat.lt_add_one, Nat.zero_lt_succ, Nat.le_refl, Nat.add_zero, Nat.zero_add, Nat.one_ne_zero, Nat.zero_ne_one, Nat.lt_irrefl, List.length_set, fa_X8_at, hi, hd, hQ, mr_X8_at, a0, a1, a2, tg_X8_at, swt, lks, Int.reduceAdd]
    refine ⟨fun q => Same.i (by rw [if_neg (by omega), if_neg (by omega), if_neg (by omega)]), fun q => ⟨v1, Same.i (by rw [if_pos q]; exact a2' _ v2)⟩, fun q => ⟨by omega, _, t_tentAt hG h.cr h.bd y, ?_⟩, fun q => ⟨by omega, _, t_manAt hG h.cr h.bd y, ?_⟩⟩
    · rintro r n3 z3 f3 ⟨rfl, rfl, rfl, rfl⟩
      rw [if_neg (by omega), if_pos q] at hQ
      refine wp_sound (by rw [hi]; exact ok_X8_at) (hd := [8, 58, 67]) 400 _ _ _ _ _ _ ?_
      simp only [wp, stp, List.mem_cons, List.not_mem_nil, Nat.reduceEqDiff, or_false, or_self, false_or, or_true, true_or, Nat.reduceAdd, ↓reduceIte, List.getElem?_cons_zero, List.getElem?_cons_succ, nthV, List.set_cons_zero, List.set_cons_succ, noL, popA, catS, Value.category, List.length_cons, List.length_nil, Nat.reduceLT, Nat.reduceLeDiff, true_and, and_true, one0, zer1, imp_t, imp_f, ofN_nI, sdead, f20, f21, not_true_eq_false, upC_ap, upC_upC, retC, fitC, isRefT, Option.toList_some, Option.toList_none, List.cons_append, List.nil_append, Nat.lt_add_one, Nat.zero_lt_succ, Nat.le_refl, Nat.add_zero, Nat.zero_add, Nat.one_ne_zero, Nat.zero_ne_one, Nat.lt_irrefl, List.length_set, fa_X8_at, hi, hd, hQ, mr_X8_at, tg_X8_at, swt, lks, Int.reduceAdd]
      exact Same.i rfl
    · rintro r n3 z3 f3 ⟨rfl, rfl, rfl, rfl⟩
      rw [if_neg (by omega), if_neg (by omega), if_pos q] at hQ
      refine wp_sound (by rw [hi]; exact ok_X8_at) (hd := [8, 58, 67]) 400 _ _ _ _ _ _ ?_
      simp only [wp, stp, List.mem_cons, List.not_mem_nil, Nat.reduceEqDiff, or_false, or_self, false_or, or_true, true_or, Nat.reduceAdd, ↓reduceIte, List.getElem?_cons_zero, List.getElem?_cons_succ, nthV, List.set_cons_zero, List.set_cons_succ, noL, popA, catS, Value.category, List.length_cons, List.length_nil, Nat.reduceLT, Nat.reduceLeDiff, true_and, and_true, one0, zer1, imp_t, imp_f, ofN_nI, sdead, f20, f21, not_true_eq_false, upC_ap, upC_upC, retC, fitC, isRefT, Option.toList_some, Option.toList_none, List.cons_append, List.nil_append, Nat.lt_add_one, Nat.zero_lt_succ, Nat.le_refl, Nat.add_zero, Nat.zero_add, Nat.one_ne_zero, Nat.zero_ne_one, Nat.lt_irrefl, List.length_set, fa_X8_at, hi, hd, hQ, mr_X8_at, tg_X8_at, swt, lks, Int.reduceAdd]
      exact Same.i rfl
  · have e : atR S y w = -2 := if_neg q
    rw [e] at hQ
    refine wp_sound (by rw [hi]; exact ok_X8_at) (hd := [8, 58, 67]) 400 _ _ _ _ _ _ ?_
    simp only [wp, stp, List.mem_cons, List.not_mem_nil, Nat.reduceEqDiff, or_false, or_self, false_or, or_true, true_or, Nat.reduceAdd, ↓reduceIte, List.getElem?_cons_zero, List.getElem?_cons_succ, nthV, List.set_cons_zero, List.set_cons_succ, noL, popA, catS, Value.category, List.length_cons, List.length_nil, Nat.reduceLT, Nat.reduceLeDiff, true_and, and_true, one0, zer1, imp_t, imp_f, ofN_nI, sdead, f20, f21, not_true_eq_false, upC_ap, upC_upC, retC, fitC, isRefT, Option.toList_some, Option.toList_none, List.cons_append, List.nil_append, Nat.lt_add_one, Nat.zero_lt_succ, Nat.le_refl, Nat.add_zero, Nat.zero_add, Nat.one_ne_zero, Nat.zero_ne_one, Nat.lt_irrefl, List.length_set, fa_X8_at, hi, hd, hQ, mr_X8_at, bI_f q, tg_X8_at, swt, lks, Int.reduceAdd]
    exact fun _ => Same.i rfl
end X8b
