-- FarFromAnybody: a way; ways are forgotten
set_option maxRecDepth 100000
set_option maxHeartbeats 4000000
section X8i
variable {G : Gam} {d : Nat} {S S' : Sta} {L : Lw} {lp N Z K n n' z z' tl i : Nat} {ro to ko : Option Nat} {tb : Nat → Nat} {fk fp : Int32} {kp : Option (Sta × Lw)} {f f' : Mf}
theorem t8_forgetWays (hG : Ok G) (hd1 : 1 ≤ d) (h0 : f 0 = cO 8 [.ref 1, .ref 12, .ref 16, .ref 20, .ref 22, .ref 24, .ref 28, .ref 30, .int (nI tl), .int fk, .int fp, fO ro, fO to, fO ko]) (h : CW2 S' S L lp N Z K f n z) (hK : K + 1 < 100000) : Tr G d 116 [.ref 0] n z f (fun v n' z' f' => v = none ∧ n' = n ∧ z' = z ∧ CW S L lp N Z (K + 1) f' n z ∧ ∀ x, ¬ x = 12 → ¬ x = 16 → f' x = f x) := by
  obtain ⟨c1, c2, c3, c4, k1, k2, g1, g2, w1, w2, w3, w4, w5⟩ := h
  obtain ⟨sg, qq, p12, -⟩ := id w1
  obtain ⟨sg2, qq2, p16, -⟩ := id w2
  refine Tr.of2 (ls0 := [.ref 0]) hG mo_X8_forgetWays (Nat.le_of_ble_eq_true rfl) rfl ?_
  intro X hi hd hXn hXz hXf hQ
  refine wp_sound (by rw [hi]; exact ok_X8_forgetWays) (hd := [7, 14]) 400 _ _ _ _ _ _ ?_
  simp only [wp, stp, List.mem_cons, List.not_mem_nil, Nat.reduceEqDiff, or_false, or_self, false_or, or_true, true_or, Nat.reduceAdd, ↓reduceIte, List.getElem?_cons_zero, List.getElem?_cons_succ, nthV, List.set_cons_zero, List.set_cons_succ, noL, popA, catS, Value.category, List.length_cons, List.length_nil, Nat.reduceLT, Nat.reduceLeDiff, true_and, and_true, one0, zer1, imp_t, imp_f, ofN_nI, sdead, f20, f21, not_true_eq_false, upC_ap, upC_upC, retC, fitC, isRefT, Option.toList_some, Option.toList_none, List.cons_append, List.nil_append, Nat.lt_add_one, Nat.zero_lt_succ, Nat.le_refl, Nat.add_zero, Nat.zero_add, Nat.one_ne_zero, Nat.zero_ne_one, Nat.lt_irrefl, List.length_set, fa_X8_forgetWays, hi, hd, hQ, mr_X8_forgetWays, h0, p12]
  refine ⟨hd1, _, t_forget_12 hG w1 hK S, ?_⟩
  rintro w n2 z2 f2 ⟨rfl, rfl, rfl, hw1, hf1⟩
  have h02 := (hf1 0 (by omega)).trans h0
  have p162 := (hf1 16 (by omega)).trans p16
  have w2' := w2.cong (Nat.le_refl _) (hf1 16 (by omega)) (hf1 17 (by omega)) (hf1 18 (by omega)) (hf1 19 (by omega)) (fun i p hi hp => hf1 p (by have := (w2.row hi hp).2.1; omega))
  refine wp_sound (by rw [hi]; exact ok_X8_forgetWays) (hd := [7, 14]) 400 _ _ _ _ _ _ ?_
  simp only [wp, stp, List.mem_cons, List.not_mem_nil, Nat.reduceEqDiff, or_false, or_self, false_or, or_true, true_or, Nat.reduceAdd, ↓reduceIte, List.getElem?_cons_zero, List.getElem?_cons_succ, nthV, List.set_cons_zero, List.set_cons_succ, noL, popA, catS, Value.category, List.length_cons, List.length_nil, Nat.reduceLT, Nat.reduceLeDiff, true_and, and_true, one0, zer1, imp_t, imp_f, ofN_nI, sdead, f20, f21, not_true_eq_false, upC_ap, upC_upC, retC, fitC, isRefT, Option.toList_some, Option.toList_none, List.cons_append, List.nil_append, Nat.lt_add_one, Nat.zero_lt_succ, Nat.le_refl, Nat.add_zero, Nat.zero_add, Nat.one_ne_zero, Nat.zero_ne_one, Nat.lt_irrefl, List.length_set, fa_X8_forgetWays, hi, hd, hQ, mr_X8_forgetWays, h02, p162]
  refine ⟨hd1, _, t_forget_16 hG w2' hK S, ?_⟩
  rintro w n3 z3 f3 ⟨rfl, rfl, rfl, hw2, hf2⟩
  have hf : ∀ x, ¬ x = 12 → ¬ x = 16 → f3 x = f x := fun x a b => (hf2 x b).trans (hf1 x a)
  have w1' := hw1.cong (Nat.le_refl _) (hf2 12 (by omega)) (hf2 13 (by omega)) (hf2 14 (by omega)) (hf2 15 (by omega)) (fun i p hi hp => hf2 p (by have := (w1.row hi hp).2.1; omega))
  have hF : FRM [12, 16] f n3 f3 := ⟨fun x a b => hf x (by simp at b; omega) (by simp at b; omega), fun x a _ _ => hf x (by omega) (by omega), fun x a => hf x (by omega) (by omega)⟩
  refine wp_sound (by rw [hi]; exact ok_X8_forgetWays) (hd := [7, 14]) 400 _ _ _ _ _ _ ?_
  simp only [wp, stp, List.mem_cons, List.not_mem_nil, Nat.reduceEqDiff, or_false, or_self, false_or, or_true, true_or, Nat.reduceAdd, ↓reduceIte, List.getElem?_cons_zero, List.getElem?_cons_succ, nthV, List.set_cons_zero, List.set_cons_succ, noL, popA, catS, Value.category, List.length_cons, List.length_nil, Nat.reduceLT, Nat.reduceLeDiff, true_and, and_true, one0, zer1, imp_t, imp_f, ofN_nI, sdead, f20, f21, not_true_eq_false, upC_ap, upC_upC, retC, fitC, isRefT, Option.toList_some, Option.toList_none, List.cons_append, List.nil_append, Nat.lt_add_one, Nat.zero_lt_succ, Nat.le_refl, Nat.add_zero, Nat.zero_add, Nat.one_ne_zero, Nat.zero_ne_one, Nat.lt_irrefl, List.length_set, fa_X8_forgetWays, hi, hd, hQ, mr_X8_forgetWays]
  exact ⟨⟨c1.off (fun k a b => hf k (by omega) (by omega)), c2.cong (fun x hx => hf x (by omega) (by omega)), c3, c4.frm hF (by decide) (Nat.le_refl _), k1.cong (hf _ (by omega) (by omega)) (hf _ (by omega) (by omega)), k2.cong (hf _ (by omega) (by omega)) (hf _ (by omega) (by omega)), g1, g2, w1', hw2, w3, w4, w5⟩, hf⟩
theorem in_N (hB : Bd S) {c : Nat} (hc : c < 100) : inS S (nI c) ↔ (c % 10 < wdt S ∧ c / 10 < hgt S) := by
  obtain ⟨-, -, wd, ht, e0, e1, hw1, hw2, hh1, hh2⟩ := hB
  show ((¬ nI c < 0 ∧ ¬ 100 ≤ nI c) ∧ ¬ S 0 0 ≤ nI c - nI c / 10 * 10 ∧ ¬ S 0 1 ≤ nI c / 10) ↔ _
  unfold wdt hgt
  rw [e0, e1, show (0 : Int32) = nI 0 from rfl, show (100 : Int32) = nI 100 from rfl, show (10 : Int32) = nI 10 from rfl, nI_clamp (by omega), nI_clamp (by omega), nI_ltI (by omega) (by omega), nI_leI (by omega) (by omega), pk_rem (by omega) (by omega) (by omega), pk_div (by omega) (by omega) (by omega), nI_leI (by omega) (by omega), nI_leI (by omega) (by omega)]
  omega
noncomputable def wayR (S : Sta) (a b : Int32) : Int32 := if (inS S a ∧ ¬ S 1 a.toNatClampNeg = 1) ∧ (inS S b ∧ ¬ S 1 b.toNatClampNeg = 1) then wayS S 1 a.toNatClampNeg b.toNatClampNeg else -1
theorem t8_way (hG : Ok G) (hd1 : 3 ≤ d) (h : XM S L lp N Z K ro to ko tb tl fk fp kp f n z) (a b : Int32) : Tr G d 102 [.ref 0, .int a, .int b] n z f (XQ S L lp N Z K ro to ko tb tl fk fp kp f (wayR S a b)) := by
  have a0 := h.o
  have a1 := h.cr.at
  obtain ⟨c1, c2, ⟨c3, c3', c3''⟩, c4, k1, k2, g1, g2, w1, w2, w3, w4, w5⟩ := id h.cw
  obtain ⟨sg, qq, p12, -⟩ := id w1
  refine Tr.of2 (ls0 := [.ref 0, .int a, .int b]) hG mo_X8_way (Nat.le_of_ble_eq_true rfl) rfl ?_
  intro X hi hd hXn hXz hXf hQ
  have no : ¬ ((inS S a ∧ ¬ S 1 a.toNatClampNeg = 1) ∧ (inS S b ∧ ¬ S 1 b.toNatClampNeg = 1)) → XQ S L lp N Z K ro to ko tb tl fk fp kp f (wayR S a b) (some (.int (-1))) n z f := fun q => by
    unfold wayR; rw [if_neg q]; exact ⟨rfl, h, RFX.refl f⟩
  refine wp_sound (by rw [hi]; exact ok_X8_way) (hd := [8, 19, 32]) 400 _ _ _ _ _ _ ?_
  simp only [wp, stp, List.mem_cons, List.not_mem_nil, Nat.reduceEqDiff, or_false, or_self, false_or, or_true, true_or, Nat.reduceAdd, ↓reduceIte, List.getElem?_cons_zero, List.getElem?_cons_succ, nthV, List.set_cons_zero, List.set_cons_succ, noL, popA, catS, Value.category, List.length_cons, List.length_nil, Nat.reduceLT, Nat.reduceLeDiff, true_and, and_true, one0, zer1, imp_t, imp_f, ofN_nI, sdead, f20, f21, not_true_eq_false, upC_ap, upC_upC, retC, fitC, isRefT, Option.toList_some, Option.toList_none, List.cons_append, List.nil_append, Nat.lt_add_one, Nat.zero_lt_succ, Nat.le_refl, Nat.add_zero, Nat.zero_add, Nat.one_ne_zero, Nat.zero_ne_one, Nat.lt_irrefl, List.length_set, fa_X8_way, hi, hd, hQ, mr_X8_way, a0, a1]
  refine ⟨by omega, _, t_canBeGoneOver hG (by omega) h.cr a, ?_⟩
  rintro r n2 z2 f2 ⟨rfl, rfl, rfl, rfl⟩
  refine wp_sound (by rw [hi]; exact ok_X8_way) (hd := [8, 19, 32]) 400 _ _ _ _ _ _ ?_
  simp only [wp, stp, List.mem_cons, List.not_mem_nil, Nat.reduceEqDiff, or_false, or_self, false_or, or_true, true_or, Nat.reduceAdd, ↓reduceIte, List.getElem?_cons_zero, List.getElem?_cons_succ, nthV, List.set_cons_zero, List.set_cons_succ, noL, popA, catS, Value.category, List.length_cons, List.length_nil, Nat.reduceLT, Nat.reduceLeDiff, true_and, and_true, one0, zer1, imp_t, imp_f, ofN_nI, sdead, f20, f21, not_true_eq_false, upC_ap, upC_upC, retC, fitC, isRefT, Option.toList_some, Option.toList_none, List.cons_append, List.nil_append, Nat.lt_add_one, Nat.zero_lt_succ, Nat.le_refl, Nat.add_zero, Nat.zero_add, Nat.one_ne_zero, Nat.zero_ne_one, Nat.lt_irrefl, List.length_set, fa_X8_way, hi, hd, hQ, mr_X8_way, a0, a1, bI_0]
  refine ⟨fun q => no (fun q2 => q q2.1), fun q => ⟨by omega, _, t_canBeGoneOver hG (by omega) h.cr b, ?_⟩⟩
  rintro r n2 z2 f2 ⟨rfl, rfl, rfl, rfl⟩
  have qa := Decidable.not_not.mp q
  refine wp_sound (by rw [hi]; exact ok_X8_way) (hd := [8, 19, 32]) 400 _ _ _ _ _ _ ?_
  simp only [wp, stp, List.mem_cons, List.not_mem_nil, Nat.reduceEqDiff, or_false, or_self, false_or, or_true, true_or, Nat.reduceAdd, ↓reduceIte, List.getElem?_cons_zero, List.getElem?_cons_succ, nthV, List.set_cons_zero, List.set_cons_succ, noL, popA, catS, Value.category, List.length_cons, List.length_nil, Nat.reduceLT, Nat.reduceLeDiff, true_and, and_true, one0, zer1, imp_t, imp_f, ofN_nI, sdead, f20, f21, not_true_eq_false, upC_ap, upC_upC, retC, fitC, isRefT, Option.toList_some, Option.toList_none, List.cons_append, List.nil_append, Nat.lt_add_one, Nat.zero_lt_succ, Nat.le_refl, Nat.add_zero, Nat.zero_add, Nat.one_ne_zero, Nat.zero_ne_one, Nat.lt_irrefl, List.length_set, fa_X8_way, hi, hd, hQ, mr_X8_way, a0, p12, bI_0]
  refine ⟨fun q2 => ?_, fun q2 => no (fun q3 => q2 q3.2)⟩
  have qb := Decidable.not_not.mp q2
  obtain ⟨ka, hka, rfl⟩ := inS_nI qa.1
  obtain ⟨kb, hkb, rfl⟩ := inS_nI qb.1
  have hca : (nI ka).toNatClampNeg = ka := nI_clamp (by omega)
  have hcb : (nI kb).toNatClampNeg = kb := nI_clamp (by omega)
  have e : wayR S (nI ka) (nI kb) = wayS S 1 ka kb := by unfold wayR; rw [if_pos ⟨qa, qb⟩, hca, hcb]
  have hop : opS S 1 ka := by
    have hi2 := (in_N h.bd hka).mp qa.1
    have hk := qa.2
    rw [hca] at hk
    refine ⟨⟨hka, hi2⟩, ?_⟩
    rcases h.vk.1.2.2.2.2.2.2 ka hka with r | r | r
    · exact Or.inl r
    · exact absurd r hk
    · exact Or.inr ⟨r, by decide⟩
  refine ⟨by omega, _, t_from_12 hG (by omega) h.bd h.cr c2 w1 c3 hka hop (by omega) (by omega), ?_⟩
  intro v n3 z3 f3 hv
  obtain ⟨p, r, rfl, e2, e3, hW1, hF1, hn1⟩ := CW.from_12 h.cw w1 w2 w3 w4 w5 hv
  have hX := h.frm2 h.vk hW1 hF1 (by decide) hn1
  rw [e] at hQ
  refine wp_sound (by rw [hi]; exact ok_X8_way) (hd := [8, 19, 32]) 400 _ _ _ _ _ _ ?_
  simp only [wp, stp, List.mem_cons, List.not_mem_nil, Nat.reduceEqDiff, or_false, or_self, false_or, or_true, true_or, Nat.reduceAdd, ↓reduceIte, List.getElem?_cons_zero, List.getElem?_cons_succ, nthV, List.set_cons_zero, List.set_cons_succ, noL, popA, catS, Value.category, List.length_cons, List.length_nil, Nat.reduceLT, Nat.reduceLeDiff, true_and, and_true, one0, zer1, imp_t, imp_f, ofN_nI, sdead, f20, f21, not_true_eq_false, upC_ap, upC_upC, retC, fitC, isRefT, Option.toList_some, Option.toList_none, List.cons_append, List.nil_append, Nat.lt_add_one, Nat.zero_lt_succ, Nat.le_refl, Nat.add_zero, Nat.zero_add, Nat.one_ne_zero, Nat.zero_ne_one, Nat.lt_irrefl, List.length_set, fa_X8_way, hi, hd, hQ, mr_X8_way, e2, hcb]
  exact ⟨(vin_nI (by omega)).mpr (by omega), by rw [e3 kb hkb], hX⟩
end X8i
