-- FarFromAnybody: a yard is told
set_option maxRecDepth 100000
set_option maxHeartbeats 4000000
section X8j
variable {G : Gam} {d : Nat} {S S' : Sta} {L : Lw} {lp N Z K n n' z z' tl i : Nat} {ro to ko : Option Nat} {tb : Nat → Nat} {fk fp : Int32} {kp : Option (Sta × Lw)} {f f' : Mf}
theorem XM.frmK {A : List Nat} {N' Z' K' : Nat} (h : XM S L lp N Z K ro to ko tb tl fk fp kp f n z) (hV : Vk S') (hW : CW S' L lp N' Z' K' f' n' z') (hF : FRM A f n f') (hA : ∀ x, x ∈ A → (1 ≤ x ∧ x ≤ 9) ∨ (12 ≤ x ∧ x ≤ 23)) (hn : n ≤ n') : XM S' L lp N' Z' K' ro to ko tb tl fk fp kp f' n' z' ∧ RFX f f' := by
  have no : ∀ x, ¬ ((1 ≤ x ∧ x ≤ 9) ∨ (12 ≤ x ∧ x ≤ 23)) → x ∉ A := fun x a b => a (hA x b)
  obtain ⟨⟨v1, v2⟩, ⟨m1, m2⟩, ⟨⟨a, ha⟩, ⟨wi, go, pa, hw⟩, st, hs⟩, ⟨w1, w2⟩, m3, ⟨b1, b2, b3⟩, b4⟩ := h
  have la := w1.2.2.2.1
  refine ⟨⟨⟨hV, v2⟩, ⟨m1.old hF.2.2, m2.eq (hF.1 30 (by omega) (no 30 (by omega)))⟩, ⟨⟨a, ha.cong (hF.1 28 (by omega) (no 28 (by omega)))⟩, ⟨wi, go, pa, hw.cong (fun x a b => hF.1 x (by omega) (no x (by omega)))⟩, st, by rw [hF.1 29 (by omega) (no 29 (by omega))]; exact hs⟩, ⟨hW, w2.frm hF (no 10 (by omega)) la.at.1 la.at.2⟩, ?_, ⟨b1.frm hF hn, b2.frm hF hn, b3.frm hF ⟨no 10 (by omega), no 11 (by omega)⟩ hn⟩, b4⟩, fun x a b => hF.1 x (by omega) (no x (by omega)), hF.2.2⟩
  rw [hF.1 0 (by omega) (no 0 (by omega))]; exact m3
theorem CR.kd (h : CR S lp f) {a : Nat → Int32} (ha : f 2 = cI 100 a) (c : Nat) (v : Int32) : CR (upS S 1 c v) lp (upC f 2 (cI 100 (upd a c v))) := by
  obtain ⟨h1, kd, ya, fa, mo, co, mv, tp, my, h2, h2', h3, h3', h4, h4', h5, h5', h6, h6', h7, h7', h8, h8', h9, h9'⟩ := h
  have e : a = kd := by rw [ha] at h2; cases h2; rfl
  subst e
  have r : ∀ j, ¬ j = 1 → upS S 1 c v j = S j := fun j hj => upS_row hj
  refine ⟨by rw [upC_ne _ _ (by omega), r 0 (by omega)]; exact h1, upd a c v, ya, fa, mo, co, mv, tp, my, upC_self _ _ _, fun i hi => ?_, by rw [upC_ne _ _ (by omega)]; exact h3, by rw [r 2 (by omega)]; exact h3', by rw [upC_ne _ _ (by omega)]; exact h4, by rw [r 3 (by omega)]; exact h4', by rw [upC_ne _ _ (by omega)]; exact h5, by rw [r 4 (by omega)]; exact h5', by rw [upC_ne _ _ (by omega)]; exact h6, by rw [r 5 (by omega)]; exact h6', by rw [upC_ne _ _ (by omega)]; exact h7, by rw [r 6 (by omega)]; exact h7', by rw [upC_ne _ _ (by omega)]; exact h8, by rw [r 7 (by omega)]; exact h8', by rw [upC_ne _ _ (by omega)]; exact h9, by rw [r 8 (by omega)]; exact h9'⟩
  rw [upd_ap, upS_ap]
  by_cases q : i = c
  · rw [if_pos q, if_pos ⟨rfl, q⟩]
  · rw [if_neg q, if_neg (fun z => q z.2)]; exact h2' i hi
/-- a yard may be so -/
abbrev ydP (S : Sta) (y k : Int32) : Prop := (inS S y ∧ ¬ k < 0 ∧ k ≤ 2) ∧ (k = 0 ∨ ¬ tkS S y)
theorem Vk.yd (h : Vk S) {c : Nat} {v : Int32} (hc : c < 100) (hv : v = 0 ∨ v = 1 ∨ v = 2) (hp : v = 0 ∨ ¬ tkS S (nI c)) : Vk (upS S 1 c v) := by
  obtain ⟨⟨⟨hB, hm5⟩, hV, hN, hSt, h5, h6, h7⟩, h8⟩ := h
  have r : ∀ j, ¬ j = 1 → upS S 1 c v j = S j := fun j hj => upS_row hj
  have et : tn (upS S 1 c v) = tn S := by unfold tn; rw [r 0 (by omega)]
  have em : mn (upS S 1 c v) = mn S := by unfold mn; rw [r 0 (by omega)]
  have ew : wdt (upS S 1 c v) = wdt S := by unfold wdt; rw [r 0 (by omega)]
  have eh : hgt (upS S 1 c v) = hgt S := by unfold hgt; rw [r 0 (by omega)]
  have ey : ∀ o, ybS (upS S 1 c v) o = ybS S o := fun o => by unfold ybS; rw [et, em, r 2 (by omega), r 8 (by omega), r 0 (by omega)]
  have ht10 := hB.1.2
  have key : ∀ o x, o < tn S + mn S + 1 → gsN S x → ybS S o = nI x → upS S 1 c v 1 x = 0 := fun o x ho hx e => by
    rw [upS_ap]
    by_cases q : x = c
    · rw [if_pos ⟨rfl, q⟩]
      rcases hp with p | p
      · exact p
      · exfalso
        rw [q] at e
        refine p ?_
        unfold ybS at e
        by_cases q1 : o < tn S
        · rw [if_pos q1] at e
          exact Or.inl (fun z => first1_not z (by omega) q1 e)
        · rw [if_neg q1] at e
          by_cases q2 : o < tn S + mn S
          · rw [if_pos q2] at e
            exact Or.inr (Or.inl (fun z => first1_not z (by omega) (show o - tn S < mn S by omega) e))
          · rw [if_neg q2] at e
            exact Or.inr (Or.inr e)
    · rw [if_neg (fun z => q z.2)]; exact hx.2
  refine ⟨⟨⟨by unfold Bd; rw [et, em, r 0 (by omega)]; exact hB, by rw [em]; exact hm5⟩, fun o ho => ?_, fun t ht => ?_, fun t ht => ?_, by rw [r 0 (by omega)]; exact h5, by rw [r 0 (by omega)]; exact h6, fun x hx => ?_⟩, by rw [r 0 (by omega)]; exact h8⟩
  · rw [et, em] at ho
    rw [ey]
    rcases hV o ho with q | ⟨x, q1, q2⟩
    · exact Or.inl q
    · exact Or.inr ⟨x, ⟨by rw [ew, eh]; exact q1.1, key o x ho q1 q2⟩, q2⟩
  · rw [et] at ht; rw [r 2 (by omega)]; exact hN t ht
  · rw [et] at ht
    obtain ⟨⟨s1, s2⟩, s3⟩ := hSt t ht
    rw [r 2 (by omega), r 3 (by omega)]
    refine ⟨⟨⟨by unfold inS; rw [r 0 (by omega)]; exact s1.1, ?_⟩, by unfold manAtS; rw [em, r 8 (by omega)]; exact s2⟩, by rw [et]; unfold clS; rw [r 2 (by omega), r 3 (by omega)]; exact s3⟩
    obtain ⟨x, hx, ex⟩ := inS_nI s1.1
    rw [ex, nI_clamp (by omega)]
    refine key t x (by omega) ((gr_gs hB hx).mp (by rw [← ex]; exact s1)) ?_
    unfold ybS; rw [if_pos ht]; exact ex
  · rw [upS_ap]
    by_cases q : x = c
    · rw [if_pos ⟨rfl, q⟩]; exact hv
    · rw [if_neg (fun z => q z.2)]; exact h7 x hx
theorem t8_yard (hG : Ok G) (hd1 : 3 ≤ d) (h : XM S L lp N Z K ro to ko tb tl fk fp kp f n z) (hK : K + 1 < 100000) (y k : Int32) : Tr G d 91 [.ref 0, .int y, .int k] n z f (fun v n' z' f' => ∃ K', K' ≤ K + 1 ∧ XQ (if ydP S y k then upS S 1 y.toNatClampNeg k else S) L lp N Z K' ro to ko tb tl fk fp kp f (bI (ydP S y k)) v n' z' f') := by
  have a0 := h.o
  obtain ⟨a1, kd, ya, fa, mo, co, mv, tp, my, a2, a2', -⟩ := id h.cr
  refine Tr.of2 (ls0 := [.ref 0, .int y, .int k]) hG mo_X8_yard (Nat.le_of_ble_eq_true rfl) rfl ?_
  intro X hi hd hXn hXz hXf hQ
  have no : ¬ ydP S y k → ∃ K', K' ≤ K + 1 ∧ XQ (if ydP S y k then upS S 1 y.toNatClampNeg k else S) L lp N Z K' ro to ko tb tl fk fp kp f (bI (ydP S y k)) (some (.int 0)) n z f := fun q => ⟨K, by omega, XQ.no q h⟩
  have L39 : ydP S y k → V G X 39 [.ref 0, .int y, .int k] [] n z f := by
    intro hp
    obtain ⟨c, hc, rfl⟩ := inS_nI hp.1.1
    have hcc : (nI c).toNatClampNeg = c := nI_clamp (by omega)
    have hin : vp_in (nI c) 100 := (vin_nI (by omega)).mpr hc
    have hv : k = 0 ∨ k = 1 ∨ k = 2 := by
      obtain ⟨j, hj, rfl⟩ := nI_of2 (M := 2) (n := 2) rfl hp.1.2.1 hp.1.2.2
      rcases (by omega : j = 0 ∨ j = 1 ∨ j = 2) with e | e | e <;> subst e
      · exact Or.inl rfl
      · exact Or.inr (Or.inl rfl)
      · exact Or.inr (Or.inr rfl)
    have e2 := a2' c hc
    rw [if_pos hp, bI_t hp, hcc] at hQ
    refine wp_sound (by rw [hi]; exact ok_X8_yard) (hd := [8, 34, 66]) 400 _ _ _ _ _ _ ?_
    simp only [wp, stp, List.mem_cons, List.not_mem_nil, Nat.reduceEqDiff, or_false, or_self, false_or, or_true, true_or, Nat.reduceAdd, ↓reduceIte, List.getElem?_cons_zero, List.getElem?_cons_succ, nthV, List.set_cons_zero, List.set_cons_succ, noL, popA, catS, Value.category, List.length_cons, List.length_nil, Nat.reduceLT, Nat.reduceLeDiff, true_and, and_true, one0, zer1, imp_t, imp_f, ofN_nI, sdead, f20, f21, not_true_eq_false, upC_ap, upC_upC, retC, fitC, isRefT, Option.toList_some, Option.toList_none, List.cons_append, List.nil_append, Nat.lt_add_one, Nat.zero_lt_succ, Nat.le_refl, Nat.add_zero, Nat.zero_add, Nat.one_ne_zero, Nat.zero_ne_one, Nat.lt_irrefl, List.length_set, fa_X8_yard, hi, hd, hQ, mr_X8_yard, a0, a1, a2, hcc, e2]
    refine ⟨hin, fun q => ?_, fun q => ⟨hin, by omega, _, t8_forgetWays hG (by omega) (S' := S) (S := upS S 1 c k) (L := L) (lp := lp) (N := N) (Z := Z) (K := K) (by rw [upC_ne _ _ (by omega)]; exact a0) (CW2.of h.cw (h.cr.kd a2 c k) (fun x hx => upC_ne _ _ (by omega))) hK, ?_⟩⟩
    · refine wp_sound (by rw [hi]; exact ok_X8_yard) (hd := [8, 34, 66]) 400 _ _ _ _ _ _ ?_
      simp only [wp, stp, List.mem_cons, List.not_mem_nil, Nat.reduceEqDiff, or_false, or_self, false_or, or_true, true_or, Nat.reduceAdd, ↓reduceIte, List.getElem?_cons_zero, List.getElem?_cons_succ, nthV, List.set_cons_zero, List.set_cons_succ, noL, popA, catS, Value.category, List.length_cons, List.length_nil, Nat.reduceLT, Nat.reduceLeDiff, true_and, and_true, one0, zer1, imp_t, imp_f, ofN_nI, sdead, f20, f21, not_true_eq_false, upC_ap, upC_upC, retC, fitC, isRefT, Option.toList_some, Option.toList_none, List.cons_append, List.nil_append, Nat.lt_add_one, Nat.zero_lt_succ, Nat.le_refl, Nat.add_zero, Nat.zero_add, Nat.one_ne_zero, Nat.zero_ne_one, Nat.lt_irrefl, List.length_set, fa_X8_yard, hi, hd, hQ, mr_X8_yard]
      refine ⟨K, by omega, rfl, ?_, RFX.refl f⟩
      rw [← q, upS_id]; exact h
    · rintro w n2 z2 f2 ⟨rfl, rfl, rfl, hW, hf⟩
      have hF : FRM [2, 12, 16] f n2 f2 := ⟨fun x a b => by
          rw [hf x (by simp at b; omega) (by simp at b; omega), upC_ne _ _ (by simp at b; omega)], fun x a _ _ => by rw [hf x (by omega) (by omega), upC_ne _ _ (by omega)], fun x a => by rw [hf x (by omega) (by omega), upC_ne _ _ (by omega)]⟩
      have hX := h.frmK (h.vk.yd hc hv hp.2) hW hF (by decide) (Nat.le_refl _)
      refine wp_sound (by rw [hi]; exact ok_X8_yard) (hd := [8, 34, 66]) 400 _ _ _ _ _ _ ?_
      simp only [wp, stp, List.mem_cons, List.not_mem_nil, Nat.reduceEqDiff, or_false, or_self, false_or, or_true, true_or, Nat.reduceAdd, ↓reduceIte, List.getElem?_cons_zero, List.getElem?_cons_succ, nthV, List.set_cons_zero, List.set_cons_succ, noL, popA, catS, Value.category, List.length_cons, List.length_nil, Nat.reduceLT, Nat.reduceLeDiff, true_and, and_true, one0, zer1, imp_t, imp_f, ofN_nI, sdead, f20, f21, not_true_eq_false, upC_ap, upC_upC, retC, fitC, isRefT, Option.toList_some, Option.toList_none, List.cons_append, List.nil_append, Nat.lt_add_one, Nat.zero_lt_succ, Nat.le_refl, Nat.add_zero, Nat.zero_add, Nat.one_ne_zero, Nat.zero_ne_one, Nat.lt_irrefl, List.length_set, fa_X8_yard, hi, hd, hQ, mr_X8_yard]
      exact ⟨K + 1, by omega, rfl, hX⟩
  refine wp_sound (by rw [hi]; exact ok_X8_yard) (hd := [8, 34, 66]) 400 _ _ _ _ _ _ ?_
  simp only [wp, stp, List.mem_cons, List.not_mem_nil, Nat.reduceEqDiff, or_false, or_self, false_or, or_true, true_or, Nat.reduceAdd, ↓reduceIte, List.getElem?_cons_zero, List.getElem?_cons_succ, nthV, List.set_cons_zero, List.set_cons_succ, noL, popA, catS, Value.category, List.length_cons, List.length_nil, Nat.reduceLT, Nat.reduceLeDiff, true_and, and_true, one0, zer1, imp_t, imp_f, ofN_nI, sdead, f20, f21, not_true_eq_false, upC_ap, upC_upC, retC, fitC, isRefT, Option.toList_some, Option.toList_none, List.cons_append, List.nil_append, Nat.lt_add_one, Nat.zero_lt_succ, Nat.le_refl, Nat.add_zero, Nat.zero_add, Nat.one_ne_zero, Nat.zero_ne_one, Nat.lt_irrefl, List.length_set, fa_X8_yard, hi, hd, hQ, mr_X8_yard, a0, a1]
  refine ⟨by omega, _, t_inside hG h.cr y, ?_⟩
  rintro r n2 z2 f2 ⟨rfl, rfl, rfl, rfl⟩
  refine wp_sound (by rw [hi]; exact ok_X8_yard) (hd := [8, 34, 39, 66]) 400 _ _ _ _ _ _ ?_
  simp only [wp, stp, List.mem_cons, List.not_mem_nil, Nat.reduceEqDiff, or_false, or_self, false_or, or_true, true_or, Nat.reduceAdd, ↓reduceIte, List.getElem?_cons_zero, List.getElem?_cons_succ, nthV, List.set_cons_zero, List.set_cons_succ, noL, popA, catS, Value.category, List.length_cons, List.length_nil, Nat.reduceLT, Nat.reduceLeDiff, true_and, and_true, one0, zer1, imp_t, imp_f, ofN_nI, sdead, f20, f21, not_true_eq_false, upC_ap, upC_upC, retC, fitC, isRefT, Option.toList_some, Option.toList_none, List.cons_append, List.nil_append, Nat.lt_add_one, Nat.zero_lt_succ, Nat.le_refl, Nat.add_zero, Nat.zero_add, Nat.one_ne_zero, Nat.zero_ne_one, Nat.lt_irrefl, List.length_set, fa_X8_yard, hi, hd, hQ, mr_X8_yard, a0, a1, bI_0]
  refine ⟨fun q => no (fun q2 => q q2.1.1), fun q => ⟨fun q1 => no (fun q2 => q2.1.2.1 q1), fun q1 => ⟨fun q3 => ⟨fun q4 => L39 ⟨⟨Decidable.not_not.mp q, q1, q3⟩, Or.inl q4⟩, fun q4 => ⟨by omega, _, t_taken hG (by omega) h.cr h.bd y, ?_⟩⟩, fun q3 => no (fun q2 => q3 q2.1.2.2)⟩⟩⟩
  rintro r n3 z3 f3 ⟨rfl, rfl, rfl, rfl⟩
  refine wp_sound (by rw [hi]; exact ok_X8_yard) (hd := [8, 34, 39, 66]) 400 _ _ _ _ _ _ ?_
  simp only [wp, stp, List.mem_cons, List.not_mem_nil, Nat.reduceEqDiff, or_false, or_self, false_or, or_true, true_or, Nat.reduceAdd, ↓reduceIte, List.getElem?_cons_zero, List.getElem?_cons_succ, nthV, List.set_cons_zero, List.set_cons_succ, noL, popA, catS, Value.category, List.length_cons, List.length_nil, Nat.reduceLT, Nat.reduceLeDiff, true_and, and_true, one0, zer1, imp_t, imp_f, ofN_nI, sdead, f20, f21, not_true_eq_false, upC_ap, upC_upC, retC, fitC, isRefT, Option.toList_some, Option.toList_none, List.cons_append, List.nil_append, Nat.lt_add_one, Nat.zero_lt_succ, Nat.le_refl, Nat.add_zero, Nat.zero_add, Nat.one_ne_zero, Nat.zero_ne_one, Nat.lt_irrefl, List.length_set, fa_X8_yard, hi, hd, hQ, mr_X8_yard, bI_0]
  exact ⟨fun q5 => L39 ⟨⟨Decidable.not_not.mp q, q1, q3⟩, Or.inr q5⟩, fun q5 => no (fun q2 => q2.2.elim q4 (fun z => q5 z))⟩
end X8j
