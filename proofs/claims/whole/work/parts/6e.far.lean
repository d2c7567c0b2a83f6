-- FarFromAnybody: thoughts
set_option maxRecDepth 100000
set_option maxHeartbeats 4000000
abbrev FG : List Nat := [3, 13, 14, 15, 20, 21]
section X8g
variable {G : Gam} {d n z lp N Z K t : Nat} {f : Mf} {S : Sta} {L : Lw} {a : Nat → Int32}
theorem t_gainWithout2 (hG : Ok G) (hd1 : 5 ≤ d) (hS : VS S) (hW : CW S L lp N Z K f n z) (hT : TV f a) {g : Nat} (ht : t < tn S) (hg : g < tn S) (hne : ¬ t = g) : Tr G d 81 [.ref 28, .int (nI t), .int (nI g)] n z f (fun v n' z' f' => v = some (.int (nI (pyN (upS S 2 g (-1)) L 1 t) - nI (pyN S L 1 t))) ∧ CW S L lp N Z K f' n' z' ∧ FRM FG f n f' ∧ n ≤ n') := by
  obtain ⟨⟨b1, b2⟩, -⟩ := id hS.1.1
  unfold TV at hT
  obtain ⟨bY, hk1⟩ := hW.kb
  obtain ⟨kn0, fk0, fa0, ne0, hk0⟩ := id hk1
  unfold KV at hk0
  have hct : (nI g).toNatClampNeg = g := nI_clamp (by omega)
  have hit : vp_in (nI g) 10 := (vin_nI (by omega)).mpr (by omega)
  have hSg : Bd (upS S 2 g (-1)) ∧ VB (upS S 2 g (-1)) ∧ ¬ upS S 2 g (-1) 2 t = -1 := by
    refine ⟨hS.1.1, fun o ho => ?_, by rw [upS_ne (fun q => hne q.2)]; exact hS.2.2.1 t ht⟩
    have e : ybS (upS S 2 g (-1)) o = if o < tn S ∧ o = g then -1 else ybS S o := by
      show (if o < tn S then (if 2 = 2 ∧ o = g then (-1 : Int32) else S 2 o) else if o < tn S + mn S then S 8 (o - tn S) else S 0 5) = _
      by_cases h1 : o < tn S
      · by_cases h2 : o = g
        · rw [if_pos h1, if_pos ⟨rfl, h2⟩, if_pos ⟨h1, h2⟩]
        · rw [if_pos h1, if_neg (fun z => h2 z.2), if_neg (fun z => h2 z.2), ybS, if_pos h1]
      · rw [if_neg h1, if_neg (fun (z : o < tn S ∧ o = g) => h1 z.1), ybS, if_neg h1]
    rw [e]
    split
    · exact Or.inl rfl
    · exact hS.2.1 o ho
  refine Tr.of2 (ls0 := [.ref 28, .int (nI t), .int (nI g), dead, dead, dead]) hG mo_X6_gainWithout (Nat.le_of_ble_eq_true rfl) rfl ?_
  intro X hi hd hXn hXz hXf hQ
  refine wp_sound (by rw [hi]; exact ok_X6_gainWithout) (hd := [8, 38]) 400 _ _ _ _ _ _ ?_
  simp only [wp, stp, List.mem_cons, List.not_mem_nil, Nat.reduceEqDiff, or_false, or_self, false_or, or_true, true_or, Nat.reduceAdd, ↓reduceIte, List.getElem?_cons_zero, List.getElem?_cons_succ, nthV, List.set_cons_zero, List.set_cons_succ, noL, popA, catS, Value.category, List.length_cons, List.length_nil, Nat.reduceLT, Nat.reduceLeDiff, true_and, and_true, one0, zer1, imp_t, imp_f, ofN_nI, sdead, f20, f21, not_true_eq_false, upC_ap, upC_upC, retC, fitC, isRefT, Option.toList_some, Option.toList_none, List.cons_append, List.nil_append, Nat.lt_add_one, Nat.zero_lt_succ, Nat.le_refl, Nat.add_zero, Nat.zero_add, Nat.one_ne_zero, Nat.zero_ne_one, Nat.lt_irrefl, List.length_set, fa_X6_gainWithout, hi, hd, hQ, mr_X6_gainWithout, hT, hk0]
  refine ⟨by omega, _, t_payOf_20 hG (by omega) hS.1.1 hW hS.2.1 hk1 ht (hS.2.2.1 t ht), ?_⟩
  rintro v n1 z1 f1 ⟨rfl, hW1, hk2, hF1, hn1⟩
  obtain ⟨c1, kd, ya, fam, mo, co, mv, tp, my, -, -, c3, c3', -⟩ := id hW1.1
  have t1 : f1 28 = _ := (hF1.1 28 (by omega) (by decide)).trans hT
  obtain ⟨bY2, hk3⟩ := (hW1.mv (t := g) (v := -1) c3).kb
  obtain ⟨kn1, fk1, fa1, ne1, hk4⟩ := id hk3
  unfold KV at hk4
  have hk5 : f1 20 = _ := ((upC_ne _ _ (by omega)).symm).trans hk4
  have eg : ya g = S 2 g := c3' g hg
  refine wp_sound (by rw [hi]; exact ok_X6_gainWithout) (hd := [8, 38]) 400 _ _ _ _ _ _ ?_
  simp only [wp, stp, List.mem_cons, List.not_mem_nil, Nat.reduceEqDiff, or_false, or_self, false_or, or_true, true_or, Nat.reduceAdd, ↓reduceIte, List.getElem?_cons_zero, List.getElem?_cons_succ, nthV, List.set_cons_zero, List.set_cons_succ, noL, popA, catS, Value.category, List.length_cons, List.length_nil, Nat.reduceLT, Nat.reduceLeDiff, true_and, and_true, one0, zer1, imp_t, imp_f, ofN_nI, sdead, f20, f21, not_true_eq_false, upC_ap, upC_upC, retC, fitC, isRefT, Option.toList_some, Option.toList_none, List.cons_append, List.nil_append, Nat.lt_add_one, Nat.zero_lt_succ, Nat.le_refl, Nat.add_zero, Nat.zero_add, Nat.one_ne_zero, Nat.zero_ne_one, Nat.lt_irrefl, List.length_set, fa_X6_gainWithout, hi, hd, hQ, mr_X6_gainWithout, t1, c1, c3, hct, hk5, eg]
  refine ⟨hit, hit, by omega, _, t_payOf_20 hG (by omega) hSg.1 (hW1.mv c3) hSg.2.1 hk3 ht hSg.2.2, ?_⟩
  rintro v n2 z2 f2 ⟨rfl, hW2, hk6, hF2, hn2⟩
  obtain ⟨c1', kd', ya', -, -, -, -, -, -, -, -, c3', c3'', -⟩ := id hW2.1
  have t2 : f2 28 = _ := (hF2.1 28 (by omega) (by decide)).trans ((upC_ne _ _ (by omega)).trans t1)
  refine wp_sound (by rw [hi]; exact ok_X6_gainWithout) (hd := [8, 38]) 400 _ _ _ _ _ _ ?_
  simp only [wp, stp, List.mem_cons, List.not_mem_nil, Nat.reduceEqDiff, or_false, or_self, false_or, or_true, true_or, Nat.reduceAdd, ↓reduceIte, List.getElem?_cons_zero, List.getElem?_cons_succ, nthV, List.set_cons_zero, List.set_cons_succ, noL, popA, catS, Value.category, List.length_cons, List.length_nil, Nat.reduceLT, Nat.reduceLeDiff, true_and, and_true, one0, zer1, imp_t, imp_f, ofN_nI, sdead, f20, f21, not_true_eq_false, upC_ap, upC_upC, retC, fitC, isRefT, Option.toList_some, Option.toList_none, List.cons_append, List.nil_append, Nat.lt_add_one, Nat.zero_lt_succ, Nat.le_refl, Nat.add_zero, Nat.zero_add, Nat.one_ne_zero, Nat.zero_ne_one, Nat.lt_irrefl, List.length_set, fa_X6_gainWithout, hi, hd, hQ, mr_X6_gainWithout, t2, c1', c3', hct]
  refine ⟨hit, ?_, ?_, by omega⟩
  · have := hW2.mv (t := g) (v := S 2 g) c3'
    rw [upS_back] at this
    exact this
  · exact ((((hF1.k.mono (fun x hx => by simp at hx ⊢; omega)).up (by omega) (by simp)).trans hn1 (hF2.k.mono (fun x hx => by simp at hx ⊢; omega))).up (by omega) (by simp))
end X8g
section X8d
variable {G : Gam} {d : Nat} {S S' : Sta} {L : Lw} {lp N Z K n n' z z' tl i : Nat} {ro to ko : Option Nat} {tb : Nat → Nat} {fk fp : Int32} {kp : Option (Sta × Lw)} {f f' : Mf}
theorem XM.frm3 {A : List Nat} (h : XM S L lp N Z K ro to ko tb tl fk fp kp f n z) (hV : Vk S') (hW : CW S' L lp N Z K f' n' z') (hF : FRM A f n f') (hA : ∀ x, x ∈ A → (1 ≤ x ∧ x ≤ 9) ∨ (12 ≤ x ∧ x ≤ 23) ∨ x = 28) (hn : n ≤ n') (hT : ∃ a, TV f' a) : XM S' L lp N Z K ro to ko tb tl fk fp kp f' n' z' ∧ RFX f f' := by
  have no : ∀ x, 24 ≤ x → ¬ x = 28 → x ∉ A := fun x a b c => by have := hA x c; omega
  obtain ⟨-, ⟨wi, go, pa, hw⟩, st, hs⟩ := h.2.2.1
  exact h.frm hV hW hF (fun x hx => by have := hA x hx; omega) hn hT ⟨wi, go, pa, hw.cong (fun x a b => hF.1 x (by omega) (no x a (by omega)))⟩ ⟨st, by rw [hF.1 29 (by omega) (no 29 (by omega) (by omega))]; exact hs⟩
theorem XM.cw (h : XM S L lp N Z K ro to ko tb tl fk fp kp f n z) : CW S L lp N Z K f n z := h.2.2.2.1.1
theorem t8_line (hG : Ok G) (hd1 : 6 ≤ d) (h : XM S L lp N Z K ro to ko tb tl fk fp kp f n z) : Tr G d 107 [.ref 0] n z f (XQ S L lp N Z K ro to ko tb tl fk fp kp f (nI (mxF (lnF S L) (tn S)))) := by
  have a0 := h.o
  obtain ⟨⟨a, hT⟩, -⟩ := h.2.2.1
  have hT' : f 28 = _ := hT
  refine Tr.of2 (ls0 := [.ref 0]) hG mo_X8_line (Nat.le_of_ble_eq_true rfl) rfl ?_
  intro X hi hd hXn hXz hXf hQ
  refine wp_sound (by rw [hi]; exact ok_X8_line) (hd := [7]) 400 _ _ _ _ _ _ ?_
  simp only [wp, stp, List.mem_cons, List.not_mem_nil, Nat.reduceEqDiff, or_false, or_self, false_or, or_true, true_or, Nat.reduceAdd, ↓reduceIte, List.getElem?_cons_zero, List.getElem?_cons_succ, nthV, List.set_cons_zero, List.set_cons_succ, noL, popA, catS, Value.category, List.length_cons, List.length_nil, Nat.reduceLT, Nat.reduceLeDiff, true_and, and_true, one0, zer1, imp_t, imp_f, ofN_nI, sdead, f20, f21, not_true_eq_false, upC_ap, upC_upC, retC, fitC, isRefT, Option.toList_some, Option.toList_none, List.cons_append, List.nil_append, Nat.lt_add_one, Nat.zero_lt_succ, Nat.le_refl, Nat.add_zero, Nat.zero_add, Nat.one_ne_zero, Nat.zero_ne_one, Nat.lt_irrefl, List.length_set, fa_X8_line, hi, hd, hQ, mr_X8_line, a0, hT']
  refine ⟨by omega, _, t_stillFine hG (by omega) h.vk.1 h.cw hT, ?_⟩
  rintro r n2 z2 f2 ⟨rfl, hW, hF, hn⟩
  have hX := h.frm2 h.vk hW hF (by decide) hn
  refine wp_sound (by rw [hi]; exact ok_X8_line) (hd := [7]) 400 _ _ _ _ _ _ ?_
  simp only [wp, stp, List.mem_cons, List.not_mem_nil, Nat.reduceEqDiff, or_false, or_self, false_or, or_true, true_or, Nat.reduceAdd, ↓reduceIte, List.getElem?_cons_zero, List.getElem?_cons_succ, nthV, List.set_cons_zero, List.set_cons_succ, noL, popA, catS, Value.category, List.length_cons, List.length_nil, Nat.reduceLT, Nat.reduceLeDiff, true_and, and_true, one0, zer1, imp_t, imp_f, ofN_nI, sdead, f20, f21, not_true_eq_false, upC_ap, upC_upC, retC, fitC, isRefT, Option.toList_some, Option.toList_none, List.cons_append, List.nil_append, Nat.lt_add_one, Nat.zero_lt_succ, Nat.le_refl, Nat.add_zero, Nat.zero_add, Nat.one_ne_zero, Nat.zero_ne_one, Nat.lt_irrefl, List.length_set, fa_X8_line, hi, hd, hQ, mr_X8_line]
  exact ⟨rfl, hX⟩
theorem t8_rest (hG : Ok G) (hd1 : 8 ≤ d) (h : XM S L lp N Z K ro to ko tb tl fk fp kp f n z) (w : Int32) : Tr G d 104 [.ref 0, .int w] n z f (XQ S L lp N Z K ro to ko tb tl fk fp kp f (if w = 0 then (setl L S 60 0).1 else if w = 1 then (setl L S 60 0).2 else -1)) := by
  have a0 := h.o
  obtain ⟨⟨a, hT⟩, ⟨wi, go, pa, hD⟩, st, h29⟩ := h.2.2.1
  have hT' : f 28 = _ := hT
  refine Tr.of2 (ls0 := [.ref 0, .int w]) hG mo_X8_rest (Nat.le_of_ble_eq_true rfl) rfl ?_
  intro X hi hd hXn hXz hXf hQ
  by_cases q : w = 0 ∨ w = 1
  · have L11 : V G X 11 [.ref 0, .int w] [] n z f := by
      refine wp_sound (by rw [hi]; exact ok_X8_rest) (hd := [18]) 400 _ _ _ _ _ _ ?_
      simp only [wp, stp, List.mem_cons, List.not_mem_nil, Nat.reduceEqDiff, or_false, or_self, false_or, or_true, true_or, Nat.reduceAdd, ↓reduceIte, List.getElem?_cons_zero, List.getElem?_cons_succ, nthV, List.set_cons_zero, List.set_cons_succ, noL, popA, catS, Value.category, List.length_cons, List.length_nil, Nat.reduceLT, Nat.reduceLeDiff, true_and, and_true, one0, zer1, imp_t, imp_f, ofN_nI, sdead, f20, f21, not_true_eq_false, upC_ap, upC_upC, retC, fitC, isRefT, Option.toList_some, Option.toList_none, List.cons_append, List.nil_append, Nat.lt_add_one, Nat.zero_lt_succ, Nat.le_refl, Nat.add_zero, Nat.zero_add, Nat.one_ne_zero, Nat.zero_ne_one, Nat.lt_irrefl, List.length_set, fa_X8_rest, hi, hd, hQ, mr_X8_rest, a0, hT']
      refine ⟨by omega, _, t_settle hG (by omega) h.vk.1 h.cw hT hD h29, ?_⟩
      rintro r n2 z2 f2 ⟨rfl, hW, ⟨a', hT2, e0, e1⟩, ⟨wi', go', hD2⟩, ⟨st', h292⟩, hF, hn⟩
      have hX := h.frm h.vk hW hF (by decide) hn ⟨a', hT2⟩ ⟨wi', go', pa, hD2⟩ ⟨st', h292⟩
      have a02 := hX.1.o
      unfold TV at hT2
      refine wp_sound (by rw [hi]; exact ok_X8_rest) (hd := [18]) 400 _ _ _ _ _ _ ?_
      simp only [wp, stp, List.mem_cons, List.not_mem_nil, Nat.reduceEqDiff, or_false, or_self, false_or, or_true, true_or, Nat.reduceAdd, ↓reduceIte, List.getElem?_cons_zero, List.getElem?_cons_succ, nthV, List.set_cons_zero, List.set_cons_succ, noL, popA, catS, Value.category, List.length_cons, List.length_nil, Nat.reduceLT, Nat.reduceLeDiff, true_and, and_true, one0, zer1, imp_t, imp_f, ofN_nI, sdead, f20, f21, not_true_eq_false, upC_ap, upC_upC, retC, fitC, isRefT, Option.toList_some, Option.toList_none, List.cons_append, List.nil_append, Nat.lt_add_one, Nat.zero_lt_succ, Nat.le_refl, Nat.add_zero, Nat.zero_add, Nat.one_ne_zero, Nat.zero_ne_one, Nat.lt_irrefl, List.length_set, fa_X8_rest, hi, hd, hQ, mr_X8_rest, a02, hT2]
      refine ⟨fun q2 => ?_, fun q2 => ?_⟩
      · rw [if_neg q2, if_pos (q.resolve_left q2), e1]; exact ⟨rfl, hX⟩
      · rw [if_pos q2, e0]; exact ⟨rfl, hX⟩
    refine wp_sound (by rw [hi]; exact ok_X8_rest) (hd := [11, 18]) 400 _ _ _ _ _ _ ?_
    simp only [wp, stp, List.mem_cons, List.not_mem_nil, Nat.reduceEqDiff, or_false, or_self, false_or, or_true, true_or, Nat.reduceAdd, ↓reduceIte, List.getElem?_cons_zero, List.getElem?_cons_succ, nthV, List.set_cons_zero, List.set_cons_succ, noL, popA, catS, Value.category, List.length_cons, List.length_nil, Nat.reduceLT, Nat.reduceLeDiff, true_and, and_true, one0, zer1, imp_t, imp_f, ofN_nI, sdead, f20, f21, not_true_eq_false, upC_ap, upC_upC, retC, fitC, isRefT, Option.toList_some, Option.toList_none, List.cons_append, List.nil_append, Nat.lt_add_one, Nat.zero_lt_succ, Nat.le_refl, Nat.add_zero, Nat.zero_add, Nat.one_ne_zero, Nat.zero_ne_one, Nat.lt_irrefl, List.length_set, fa_X8_rest, hi, hd, hQ, mr_X8_rest]
    exact ⟨fun _ => L11, fun _ => ⟨fun _ => L11, fun q2 => absurd q (fun q3 => q3.elim (by assumption) q2)⟩⟩
  · have e : (if w = 0 then (setl L S 60 0).1 else if w = 1 then (setl L S 60 0).2 else -1) = (-1 : Int32) := by rw [if_neg (fun z => q (Or.inl z)), if_neg (fun z => q (Or.inr z))]
    rw [e] at hQ
    refine wp_sound (by rw [hi]; exact ok_X8_rest) (hd := [11, 18]) 400 _ _ _ _ _ _ ?_
    simp only [wp, stp, List.mem_cons, List.not_mem_nil, Nat.reduceEqDiff, or_false, or_self, false_or, or_true, true_or, Nat.reduceAdd, ↓reduceIte, List.getElem?_cons_zero, List.getElem?_cons_succ, nthV, List.set_cons_zero, List.set_cons_succ, noL, popA, catS, Value.category, List.length_cons, List.length_nil, Nat.reduceLT, Nat.reduceLeDiff, true_and, and_true, one0, zer1, imp_t, imp_f, ofN_nI, sdead, f20, f21, not_true_eq_false, upC_ap, upC_upC, retC, fitC, isRefT, Option.toList_some, Option.toList_none, List.cons_append, List.nil_append, Nat.lt_add_one, Nat.zero_lt_succ, Nat.le_refl, Nat.add_zero, Nat.zero_add, Nat.one_ne_zero, Nat.zero_ne_one, Nat.lt_irrefl, List.length_set, fa_X8_rest, hi, hd, hQ, mr_X8_rest]
    exact ⟨fun q2 => absurd (Or.inl q2) q, fun _ => ⟨fun q2 => absurd (Or.inr q2) q, fun _ => ⟨rfl, h, RFX.refl f⟩⟩⟩
theorem t8_saves (hG : Ok G) (hd1 : 8 ≤ d) (h : XM S L lp N Z K ro to ko tb tl fk fp kp f n z) (w : Int32) : Tr G d 106 [.ref 0, .int w] n z f (XQ S L lp N Z K ro to ko tb tl fk fp kp f (if w = 0 then svY (svS S L 100) else if w = 1 then svD (allN S L) (svS S L 100) else -1)) := by
  have a0 := h.o
  obtain ⟨⟨a, hT⟩, -⟩ := h.2.2.1
  have hT' : f 28 = _ := hT
  refine Tr.of2 (ls0 := [.ref 0, .int w]) hG mo_X8_saves (Nat.le_of_ble_eq_true rfl) rfl ?_
  intro X hi hd hXn hXz hXf hQ
  by_cases q : w = 0 ∨ w = 1
  · have L11 : V G X 11 [.ref 0, .int w] [] n z f := by
      refine wp_sound (by rw [hi]; exact ok_X8_saves) (hd := [18]) 400 _ _ _ _ _ _ ?_
      simp only [wp, stp, List.mem_cons, List.not_mem_nil, Nat.reduceEqDiff, or_false, or_self, false_or, or_true, true_or, Nat.reduceAdd, ↓reduceIte, List.getElem?_cons_zero, List.getElem?_cons_succ, nthV, List.set_cons_zero, List.set_cons_succ, noL, popA, catS, Value.category, List.length_cons, List.length_nil, Nat.reduceLT, Nat.reduceLeDiff, true_and, and_true, one0, zer1, imp_t, imp_f, ofN_nI, sdead, f20, f21, not_true_eq_false, upC_ap, upC_upC, retC, fitC, isRefT, Option.toList_some, Option.toList_none, List.cons_append, List.nil_append, Nat.lt_add_one, Nat.zero_lt_succ, Nat.le_refl, Nat.add_zero, Nat.zero_add, Nat.one_ne_zero, Nat.zero_ne_one, Nat.lt_irrefl, List.length_set, fa_X8_saves, hi, hd, hQ, mr_X8_saves, a0, hT']
      refine ⟨by omega, _, t_findSaving hG (by omega) h.vk.1 h.cw hT, ?_⟩
      rintro r n2 z2 f2 ⟨rfl, hW, ⟨a', hT2, e0, e1⟩, hF, hn⟩
      have hX := h.frm3 h.vk hW hF (by decide) hn ⟨a', hT2⟩
      have a02 := hX.1.o
      unfold TV at hT2
      refine wp_sound (by rw [hi]; exact ok_X8_saves) (hd := [18]) 400 _ _ _ _ _ _ ?_
      simp only [wp, stp, List.mem_cons, List.not_mem_nil, Nat.reduceEqDiff, or_false, or_self, false_or, or_true, true_or, Nat.reduceAdd, ↓reduceIte, List.getElem?_cons_zero, List.getElem?_cons_succ, nthV, List.set_cons_zero, List.set_cons_succ, noL, popA, catS, Value.category, List.length_cons, List.length_nil, Nat.reduceLT, Nat.reduceLeDiff, true_and, and_true, one0, zer1, imp_t, imp_f, ofN_nI, sdead, f20, f21, not_true_eq_false, upC_ap, upC_upC, retC, fitC, isRefT, Option.toList_some, Option.toList_none, List.cons_append, List.nil_append, Nat.lt_add_one, Nat.zero_lt_succ, Nat.le_refl, Nat.add_zero, Nat.zero_add, Nat.one_ne_zero, Nat.zero_ne_one, Nat.lt_irrefl, List.length_set, fa_X8_saves, hi, hd, hQ, mr_X8_saves, a02, hT2]
      refine ⟨fun q2 => ?_, fun q2 => ?_⟩
      · rw [if_neg q2, if_pos (q.resolve_left q2), e1]; exact ⟨rfl, hX⟩
      · rw [if_pos q2, e0]; exact ⟨rfl, hX⟩
    refine wp_sound (by rw [hi]; exact ok_X8_saves) (hd := [11, 18]) 400 _ _ _ _ _ _ ?_
    simp only [wp, stp, List.mem_cons, List.not_mem_nil, Nat.reduceEqDiff, or_false, or_self, false_or, or_true, true_or, Nat.reduceAdd, ↓reduceIte, List.getElem?_cons_zero, List.getElem?_cons_succ, nthV, List.set_cons_zero, List.set_cons_succ, noL, popA, catS, Value.category, List.length_cons, List.length_nil, Nat.reduceLT, Nat.reduceLeDiff, true_and, and_true, one0, zer1, imp_t, imp_f, ofN_nI, sdead, f20, f21, not_true_eq_false, upC_ap, upC_upC, retC, fitC, isRefT, Option.toList_some, Option.toList_none, List.cons_append, List.nil_append, Nat.lt_add_one, Nat.zero_lt_succ, Nat.le_refl, Nat.add_zero, Nat.zero_add, Nat.one_ne_zero, Nat.zero_ne_one, Nat.lt_irrefl, List.length_set, fa_X8_saves, hi, hd, hQ, mr_X8_saves]
    exact ⟨fun _ => L11, fun _ => ⟨fun _ => L11, fun q2 => absurd q (fun q3 => q3.elim (by assumption) q2)⟩⟩
  · have e : (if w = 0 then svY (svS S L 100) else if w = 1 then svD (allN S L) (svS S L 100) else -1) = (-1 : Int32) := by rw [if_neg (fun z => q (Or.inl z)), if_neg (fun z => q (Or.inr z))]
    rw [e] at hQ
    refine wp_sound (by rw [hi]; exact ok_X8_saves) (hd := [11, 18]) 400 _ _ _ _ _ _ ?_
    simp only [wp, stp, List.mem_cons, List.not_mem_nil, Nat.reduceEqDiff, or_false, or_self, false_or, or_true, true_or, Nat.reduceAdd, ↓reduceIte, List.getElem?_cons_zero, List.getElem?_cons_succ, nthV, List.set_cons_zero, List.set_cons_succ, noL, popA, catS, Value.category, List.length_cons, List.length_nil, Nat.reduceLT, Nat.reduceLeDiff, true_and, and_true, one0, zer1, imp_t, imp_f, ofN_nI, sdead, f20, f21, not_true_eq_false, upC_ap, upC_upC, retC, fitC, isRefT, Option.toList_some, Option.toList_none, List.cons_append, List.nil_append, Nat.lt_add_one, Nat.zero_lt_succ, Nat.le_refl, Nat.add_zero, Nat.zero_add, Nat.one_ne_zero, Nat.zero_ne_one, Nat.lt_irrefl, List.length_set, fa_X8_saves, hi, hd, hQ, mr_X8_saves]
    exact ⟨fun q2 => absurd (Or.inl q2) q, fun _ => ⟨fun q2 => absurd (Or.inr q2) q, fun _ => ⟨rfl, h, RFX.refl f⟩⟩⟩
end X8d
