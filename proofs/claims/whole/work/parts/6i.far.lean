-- FarFromAnybody: a way; ways are forgotten
set_option maxRecDepth 100000
set_option maxHeartbeats 4000000
section X8i
variable {G : Gam} {d : Nat} {S S' : Sta} {L : Lw} {lp N Z K n n' z z' tl i : Nat} {ro to ko : Option Nat} {tb : Nat → Nat} {fk fp : Int32} {kp : Option (Sta × Lw)} {f f' : Mf}
theorem t8_forgetWays (hG : Ok G) (hd1 : 1 ≤ d) (h0 : f 0 = cO 8 [.ref 1, .ref 12, .ref 16, .ref 20, .ref 22, .ref 24, .ref 28, .ref 30, .int (nI tl), .int fk, .int fp, fO ro, fO to, fO ko]) (h : CW2 S' S L lp N Z K f n z) (hK : K + 1 < 100000) : Tr G d 116 [.ref 0] n z f (fun v n' z' f' => v = none ∧ n' = n ∧ z' = z ∧ CW S L lp N Z (K + 1) f' n z ∧ ∀ x, ¬ x = 12 → ¬ x = 16 → f' x = f x) := by
  obtain ⟨c1, c2, c3, c4, k1, k2, g1, g2, w1, w2, w3, w4, w5⟩ := h
  obtain ⟨sg, qq, p12, -⟩ := id w1
  obtain ⟨sg2, qq2, p16, -⟩ := id w2
  refine Tr.of2 (ls0 := [.ref 0]) hG mo_X8_forgetWays (Nat.le_of_ble_eq_true rfl) rfl ?_
  intro X hi hd hXn hXz hXf hQ
  refine wp_sound (by rw [hi]; exact ok_X8_forgetWays) (hd := [7, 14]) 400 _ _ _ _ _ _ ?_
  simp only [wp, stp, List.mem_cons, List.not_mem_nil, Nat.reduceEqDiff, or_false, or_self, false_or, or_true, true_or, Nat.reduceAdd, ↓reduceIte, List.getElem?_cons_zero, List.getElem?_cons_succ, nthV, List.set_cons_zero, List.set_cons_succ, noL, popA, catS, Value.category, List.length_cons, List.length_nil, Nat.reduceLT, Nat.reduceLeDiff, true_and, and_true, one0, zer1, imp_t, imp_f, ofN_nI, sdead, f20, f21, not_true_eq_false, upC_ap, upC_upC, retC, fitC, isRefT, Option.toList_some, Option.toList_none, List.cons_append, List.nil_append, Nat.lt_add_one, Nat.zero_lt_succ, Nat.le_refl, Nat.add_zero, Nat.zero_add, Nat.one_ne_zero, Nat.zero_ne_one, Nat.lt_irrefl, List.length_set, fa_X8_forgetWays, hi, hd, hQ, mr_X8_forgetWays, h0, p12]
  refine ⟨hd1, _, t_forget_12 hG w1 hK S, ?_⟩
  rintro w n2 z2 f2 ⟨rfl, rfl, rfl, hw1, hf1⟩
  have h02 := (hf1 0 (by omega)).trans h0
  have p162 := (hf1 16 (by omega)).trans p16
  have w2' := w2.cong (Nat.le_refl _) (hf1 16 (by omega)) (hf1 17 (by omega)) (hf1 18 (by omega)) (hf1 19 (by omega)) (fun i p hi hp => hf1 p (by have := (w2.row hi hp).2.1; omega))
  refine wp_sound (by rw [hi]; exact ok_X8_forgetWays) (hd := [7, 14]) 400 _ _ _ _ _ _ ?_
  simp only [wp, stp, List.mem_cons, List.not_mem_nil, Nat.reduceEqDiff, or_false, or_self, false_or, or_true, true_or, Nat.reduceAdd, ↓reduceIte, List.getElem?_cons_zero, List.getElem?_cons_succ, nthV, List.set_cons_zero, List.set_cons_succ, noL, popA, catS, Value.category, List.length_cons, List.length_nil, Nat.reduceLT, Nat.reduceLeDiff, true_and, and_true, one0, zer1, imp_t, imp_f, ofN_nI, sdead, f20, f21, not_true_eq_false, upC_ap, upC_upC, retC, fitC, isRefT, Option.toList_some, Option.toList_none, List.cons_append, List.nil_append, Nat.lt_add_one, Nat.zero_lt_succ, Nat.le_refl, Nat.add_zero, Nat.zero_add, Nat.one_ne_zero, Nat.zero_ne_one, Nat.lt_irrefl, List.length_set, fa_X8_forgetWays, hi, hd, hQ, mr_X8_forgetWays, h02, p162]
  refine ⟨hd1, _, t_forget_16 hG w2' hK S, ?_⟩
  rintro w n3 z3 f3 ⟨rfl, rfl, rfl, hw2, hf2⟩
  have hf : ∀ x, ¬ x = 12 → ¬ x = 16 → f3 x = f x := fun x a b => (hf2 x b).trans (hf1 x a)
  have w1' := hw1.cong (Nat.le_refl _) (hf2 12 (by omega)) (hf2 13 (by omega)) (hf2 14 (by omega)) (hf2 15 (by omega)) (fun i p hi hp => hf2 p (by have := (w1.row hi hp).2.1; omega))
  have hF : FRM [12, 16] f n3 f3 := ⟨fun x a b => hf x (by simp at b; omega) (by simp at b; omega), fun x a _ _ => hf x (by omega) (by omega), fun x a => hf x (by omega) (by omega)⟩
  refine wp_sound (by rw [hi]; exact ok_X8_forgetWays) (hd := [7, 14]) 400 _ _ _ _ _ _ ?_
  simp only [wp, stp, List.mem_cons, List.not_mem_nil, Nat.reduceEqDiff, or_false, or_self, false_or, or_true, true_or, Nat.reduceAdd, ↓reduceIte, List.getElem?_cons_zero, List.getElem?_cons_succ, nthV, List.set_cons_zero, List.set_cons_succ, noL, popA, catS, Value.category, List.length_cons, List.length_nil, Nat.reduceLT, Nat.reduceLeDiff, true_and, and_true, one0, zer1, imp_t, imp_f, ofN_nI, sdead, f20, f21, not_true_eq_false, upC_ap, upC_upC, retC, fitC, isRefT, Option.toList_some, Option.toList_none, List.cons_append, List.nil_append, Nat.lt_add_one, Nat.zero_lt_succ, Nat.le_refl, Nat.add_zero, Nat.zero_add, Nat.one_ne_zero, Nat.zero_ne_one, Nat.lt_irrefl, List.length_set, fa_X8_forgetWays, hi, hd, hQ, mr_X8_forgetWays]
  exact ⟨⟨c1.off (fun k a b => hf k (by omega) (by omega)), c2.cong (fun x hx => hf x (by omega) (by omega)), c3, c4.frm hF (by decide) (Nat.le_refl _), k1.cong (hf _ (by omega) (by omega)) (hf _ (by omega) (by omega)), k2.cong (hf _ (by omega) (by omega)) (hf _ (by omega) (by omega)), g1, g2, w1', hw2, w3, w4, w5⟩, hf⟩
end X8i
