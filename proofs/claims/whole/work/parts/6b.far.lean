-- FarFromAnybody: what is told of the plain, the tents, the men
set_option maxRecDepth 100000
set_option maxHeartbeats 4000000
/-- how an outer call ends -/
def XQ (S : Sta) (L : Lw) (lp N Z K : Nat) (ro to ko : Option Nat) (tb : Nat → Nat) (tl : Nat) (fk fp : Int32) (kp : Option (Sta × Lw)) (f : Mf) (ans : Int32) : Po := fun v n' z' f' => v = some (.int ans) ∧ XM S L lp N Z K ro to ko tb tl fk fp kp f' n' z' ∧ RFX f f'
section X8a
variable {G : Gam} {d : Nat} {S S' : Sta} {L : Lw} {lp N Z K n n' z z' tl i : Nat} {ro to ko : Option Nat} {tb : Nat → Nat} {fk fp : Int32} {kp : Option (Sta × Lw)} {f f' : Mf}
theorem XM.camp (h : XM S L lp N Z K ro to ko tb tl fk fp kp f n z) (hV : Vk S') (h0 : S' 0 0 = S 0 0) (h1 : S' 0 1 = S 0 1) (h2 : S' 1 = S 1) (hC : CR S' lp f') (hf : ∀ x, ¬ (1 ≤ x ∧ x ≤ 9) → f' x = f x) : XM S' L lp N Z K ro to ko tb tl fk fp kp f' n z ∧ RFX f f' :=
  h.frm2 (A := [1, 2, 3, 4, 5, 6, 7, 8, 9]) hV (h.2.2.2.1.1.camp h0 h1 h2 hC (fun x hx => hf x (by omega))) ⟨fun x a b => hf x (by simp at b; omega), fun x a _ _ => hf x (by omega), fun x a => hf x (by omega)⟩ (by decide) (Nat.le_refl _)
theorem XM.o (h : XM S L lp N Z K ro to ko tb tl fk fp kp f n z) : f 0 = cO 8 [.ref 1, .ref 12, .ref 16, .ref 20, .ref 22, .ref 24, .ref 28, .ref 30, .int (nI tl), .int fk, .int fp, fO ro, fO to, fO ko] := h.2.2.2.2.1
theorem XM.cr (h : XM S L lp N Z K ro to ko tb tl fk fp kp f n z) : CR S lp f := h.2.2.2.1.1.1
theorem XM.vk (h : XM S L lp N Z K ro to ko tb tl fk fp kp f n z) : Vk S := h.1.1
theorem XM.bd (h : XM S L lp N Z K ro to ko tb tl fk fp kp f n z) : Bd S := h.1.1.1.1.1
theorem Vk.cg (h : Vk S) (h0 : ∀ i, (i < 2 ∨ 3 ≤ i ∧ i ≤ 8) → S' 0 i = S 0 i) (h1 : S' 1 = S 1) (h2 : S' 2 = S 2) (h3 : S' 3 = S 3) (h8 : S' 8 = S 8) : Vk S' := ⟨h.1.cg (fun i hi => h0 i (by omega)) h1 h2 h3 h8, by rw [h0 8 (by omega)]; exact h.2⟩
theorem t8_state (hG : Ok G) (h : XM S L lp N Z K ro to ko tb tl fk fp kp f n z) (v : Int32) : Tr G d 89 [.ref 0, .int v] n z f (XQ (upS S 0 2 v) L lp N Z K ro to ko tb tl fk fp kp f (S 0 2)) := by
  have a0 := h.o
  have a1 := h.cr.at
  refine Tr.of2 (ls0 := [.ref 0, .int v, dead]) hG mo_X8_state (Nat.le_of_ble_eq_true rfl) rfl ?_
  intro X hi hd hXn hXz hXf hQ
  refine wp_sound (by rw [hi]; exact ok_X8_state) (hd := []) 400 _ _ _ _ _ _ ?_
  simp only [wp, stp, List.mem_cons, List.not_mem_nil, Nat.reduceEqDiff, or_false, or_self, false_or, or_true, true_or, Nat.reduceAdd, ↓reduceIte, List.getElem?_cons_zero, List.getElem?_cons_succ, nthV, List.set_cons_zero, List.set_cons_succ, noL, popA, catS, Value.category, List.length_cons, List.length_nil, Nat.reduceLT, Nat.reduceLeDiff, true_and, and_true, one0, zer1, imp_t, imp_f, ofN_nI, sdead, f20, f21, not_true_eq_false, upC_ap, upC_upC, retC, fitC, isRefT, Option.toList_some, Option.toList_none, List.cons_append, List.nil_append, Nat.lt_add_one, Nat.zero_lt_succ, Nat.le_refl, Nat.add_zero, Nat.zero_add, Nat.one_ne_zero, Nat.zero_ne_one, Nat.lt_irrefl, List.length_set, fa_X8_state, hi, hd, hQ, mr_X8_state, a0, a1]
  refine ⟨rfl, h.camp (h.vk.cg (fun i hi' => upS_0 (by omega)) (upS_row (by omega)) (upS_row (by omega)) (upS_row (by omega)) (upS_row (by omega))) (upS_0 (by omega)) (upS_0 (by omega)) (upS_row (by omega)) (h.cr.num_2 v) (fun x hx => upC_ne _ _ (by omega))⟩
theorem XQ.yes {p : Prop} [Decidable p] {S1 : Sta} (hp : p) (h : XM S1 L lp N Z K ro to ko tb tl fk fp kp f' n' z' ∧ RFX f f') : XQ (if p then S1 else S) L lp N Z K ro to ko tb tl fk fp kp f (bI p) (some (.int 1)) n' z' f' := by
  rw [if_pos hp, bI_t hp]; exact ⟨rfl, h⟩
theorem XQ.no {p : Prop} [Decidable p] {S1 : Sta} (hp : ¬ p) (h : XM S L lp N Z K ro to ko tb tl fk fp kp f n z) : XQ (if p then S1 else S) L lp N Z K ro to ko tb tl fk fp kp f (bI p) (some (.int 0)) n z f := by
  rw [if_neg hp, bI_f hp]; exact ⟨rfl, h, RFX.refl f⟩
theorem Vk.smp (h : Vk S) (hS : SmP S S') (h6 : ∃ fi, fi ≤ 9999 ∧ S' 0 6 = nI fi) (h7 : S' 0 7 = 0 ∨ S' 0 7 = 1) : Vk S' := by
  obtain ⟨⟨⟨a1, a1'⟩, a2, a3, a4, a5, a6, a7⟩, a8⟩ := h
  refine ⟨⟨⟨hS.bd a1, by rw [hS.emn]; exact a1'⟩, hS.vb a2, hS.ng a3, fun t ht => ?_, h6, h7, by rw [hS.2.1]; exact a7⟩, by rw [hS.1.2.2.2.2.2]; exact a8⟩
  rw [hS.2.2.1, hS.2.2.2.1, hS.cs]
  exact a4 t (by rw [← hS.etn]; exact ht)
theorem tS_nI (hB : Bd S) {t : Int32} (h : tS S t) : ∃ k, k < tn S ∧ t = nI k := by
  obtain ⟨⟨b1, b2⟩, -⟩ := hB
  obtain ⟨h1, h2⟩ := h
  rw [b1] at h2
  rcases pk_ix t (n := tn S) (by omega) with h | h | h
  · exact absurd h h1
  · exact absurd h h2
  · exact h
theorem t8_isMode (hG : Ok G) (v : Int32) : Tr G d 118 [.int v] n z f (Same (.int (bI (¬ v < 0 ∧ ¬ 3 < v))) n z f) := by
  refine Tr.of2 (ls0 := [.int v]) hG mo_X8_isMode (Nat.le_of_ble_eq_true rfl) rfl ?_
  intro X hi hd hXn hXz hXf hQ
  refine wp_sound (by rw [hi]; exact ok_X8_isMode) (hd := []) 400 _ _ _ _ _ _ ?_
  simp only [wp, stp, List.mem_cons, List.not_mem_nil, Nat.reduceEqDiff, or_false, or_self, false_or, or_true, true_or, Nat.reduceAdd, ↓reduceIte, List.getElem?_cons_zero, List.getElem?_cons_succ, nthV, List.set_cons_zero, List.set_cons_succ, noL, popA, catS, Value.category, List.length_cons, List.length_nil, Nat.reduceLT, Nat.reduceLeDiff, true_and, and_true, one0, zer1, imp_t, imp_f, ofN_nI, sdead, f20, f21, not_true_eq_false, upC_ap, upC_upC, retC, fitC, isRefT, Option.toList_some, Option.toList_none, List.cons_append, List.nil_append, Nat.lt_add_one, Nat.zero_lt_succ, Nat.le_refl, Nat.add_zero, Nat.zero_add, Nat.one_ne_zero, Nat.zero_ne_one, Nat.lt_irrefl, List.length_set, fa_X8_isMode, hi, hd, hQ, mr_X8_isMode]
  exact ⟨fun h => Same.i (bI_f (fun q => q.1 h)).symm, fun h => ⟨fun h2 => Same.i (bI_f (fun q => q.2 h2)).symm, fun h2 => Same.i (bI_t ⟨h, h2⟩).symm⟩⟩
theorem t8_setFine (hG : Ok G) (h : XM S L lp N Z K ro to ko tb tl fk fp kp f n z) (v : Int32) : Tr G d 119 [.ref 0, .int v] n z f (XQ (if ¬ v < 0 ∧ v ≤ 9999 then upS S 0 6 v else S) L lp N Z K ro to ko tb tl fk fp kp f (bI (¬ v < 0 ∧ v ≤ 9999))) := by
  have a0 := h.o
  have a1 := h.cr.at
  refine Tr.of2 (ls0 := [.ref 0, .int v]) hG mo_X8_setFine (Nat.le_of_ble_eq_true rfl) rfl ?_
  intro X hi hd hXn hXz hXf hQ
  refine wp_sound (by rw [hi]; exact ok_X8_setFine) (hd := []) 400 _ _ _ _ _ _ ?_
  simp only [wp, stp, List.mem_cons, List.not_mem_nil, Nat.reduceEqDiff, or_false, or_self, false_or, or_true, true_or, Nat.reduceAdd, ↓reduceIte, List.getElem?_cons_zero, List.getElem?_cons_succ, nthV, List.set_cons_zero, List.set_cons_succ, noL, popA, catS, Value.category, List.length_cons, List.length_nil, Nat.reduceLT, Nat.reduceLeDiff, true_and, and_true, one0, zer1, imp_t, imp_f, ofN_nI, sdead, f20, f21, not_true_eq_false, upC_ap, upC_upC, retC, fitC, isRefT, Option.toList_some, Option.toList_none, List.cons_append, List.nil_append, Nat.lt_add_one, Nat.zero_lt_succ, Nat.le_refl, Nat.add_zero, Nat.zero_add, Nat.one_ne_zero, Nat.zero_ne_one, Nat.lt_irrefl, List.length_set, fa_X8_setFine, hi, hd, hQ, mr_X8_setFine, a0, a1]
  refine ⟨fun h1 => XQ.no (fun q => q.1 h1) h, fun h1 => ⟨fun h2 => XQ.yes ⟨h1, h2⟩ ?_, fun h2 => XQ.no (fun q => h2 q.2) h⟩⟩
  obtain ⟨j, hj, rfl⟩ := nI_of2 (M := 9999) (n := 9999) rfl h1 h2
  exact h.camp (h.vk.smp (SmP.num S 6 _ (by omega)) ⟨j, hj, upS_self⟩ (by rw [upS_0 (by omega)]; exact h.vk.1.2.2.2.2.2.1)) (upS_0 (by omega)) (upS_0 (by omega)) (upS_row (by omega)) (h.cr.num_6 _) (fun x hx => upC_ne _ _ (by omega))
theorem t8_setAtOnce (hG : Ok G) (h : XM S L lp N Z K ro to ko tb tl fk fp kp f n z) (v : Int32) : Tr G d 120 [.ref 0, .int v] n z f (XQ (if v = 0 ∨ v = 1 then upS S 0 7 v else S) L lp N Z K ro to ko tb tl fk fp kp f (bI (v = 0 ∨ v = 1))) := by
  have a0 := h.o
  have a1 := h.cr.at
  have go : v = 0 ∨ v = 1 → XM (upS S 0 7 v) L lp N Z K ro to ko tb tl fk fp kp (upC f 1 (cO 0 [.int (S 0 0), .int (S 0 1), .int (S 0 2), .ref 2, .int (S 0 3), .ref 3, .ref 4, .ref 5, .ref 6, .ref 7, .ref 8, .int (S 0 4), .ref 9, .int (S 0 5), .int (S 0 6), .int v, .int (S 0 8), .int (S 0 9), .ref lp])) n z ∧ RFX f (upC f 1 (cO 0 [.int (S 0 0), .int (S 0 1), .int (S 0 2), .ref 2, .int (S 0 3), .ref 3, .ref 4, .ref 5, .ref 6, .ref 7, .ref 8, .int (S 0 4), .ref 9, .int (S 0 5), .int (S 0 6), .int v, .int (S 0 8), .int (S 0 9), .ref lp])) := fun hv => h.camp (h.vk.smp (SmP.num S 7 _ (by omega)) (by rw [upS_0 (by omega)]; exact h.vk.1.2.2.2.2.1) (by rw [upS_self]; exact hv)) (upS_0 (by omega)) (upS_0 (by omega)) (upS_row (by omega)) (h.cr.num_7 _) (fun x hx => upC_ne _ _ (by omega))
  refine Tr.of2 (ls0 := [.ref 0, .int v]) hG mo_X8_setAtOnce (Nat.le_of_ble_eq_true rfl) rfl ?_
  intro X hi hd hXn hXz hXf hQ
  by_cases h0 : v = 0
  · subst h0
    have go := go (Or.inl rfl)
    refine wp_sound (by rw [hi]; exact ok_X8_setAtOnce) (hd := []) 400 _ _ _ _ _ _ ?_
    simp only [wp, stp, List.mem_cons, List.not_mem_nil, Nat.reduceEqDiff, or_false, or_self, false_or, or_true, true_or, Nat.reduceAdd, ↓reduceIte, List.getElem?_cons_zero, List.getElem?_cons_succ, nthV, List.set_cons_zero, List.set_cons_succ, noL, popA, catS, Value.category, List.length_cons, List.length_nil, Nat.reduceLT, Nat.reduceLeDiff, true_and, and_true, one0, zer1, imp_t, imp_f, ofN_nI, sdead, f20, f21, not_true_eq_false, upC_ap, upC_upC, retC, fitC, isRefT, Option.toList_some, Option.toList_none, List.cons_append, List.nil_append, Nat.lt_add_one, Nat.zero_lt_succ, Nat.le_refl, Nat.add_zero, Nat.zero_add, Nat.one_ne_zero, Nat.zero_ne_one, Nat.lt_irrefl, List.length_set, fa_X8_setAtOnce, hi, hd, hQ, mr_X8_setAtOnce, a0, a1]
    exact fun _ => ⟨rfl, go⟩
  · by_cases h1 : v = 1
    · subst h1
      have go := go (Or.inr rfl)
      refine wp_sound (by rw [hi]; exact ok_X8_setAtOnce) (hd := []) 400 _ _ _ _ _ _ ?_
      simp only [wp, stp, List.mem_cons, List.not_mem_nil, Nat.reduceEqDiff, or_false, or_self, false_or, or_true, true_or, Nat.reduceAdd, ↓reduceIte, List.getElem?_cons_zero, List.getElem?_cons_succ, nthV, List.set_cons_zero, List.set_cons_succ, noL, popA, catS, Value.category, List.length_cons, List.length_nil, Nat.reduceLT, Nat.reduceLeDiff, true_and, and_true, one0, zer1, imp_t, imp_f, ofN_nI, sdead, f20, f21, not_true_eq_false, upC_ap, upC_upC, retC, fitC, isRefT, Option.toList_some, Option.toList_none, List.cons_append, List.nil_append, Nat.lt_add_one, Nat.zero_lt_succ, Nat.le_refl, Nat.add_zero, Nat.zero_add, Nat.one_ne_zero, Nat.zero_ne_one, Nat.lt_irrefl, List.length_set, fa_X8_setAtOnce, hi, hd, hQ, mr_X8_setAtOnce, a0, a1]
      exact fun _ _ => ⟨rfl, go⟩
    · refine wp_sound (by rw [hi]; exact ok_X8_setAtOnce) (hd := []) 400 _ _ _ _ _ _ ?_
      simp only [wp, stp, List.mem_cons, List.not_mem_nil, Nat.reduceEqDiff, or_false, or_self, false_or, or_true, true_or, Nat.reduceAdd, ↓reduceIte, List.getElem?_cons_zero, List.getElem?_cons_succ, nthV, List.set_cons_zero, List.set_cons_succ, noL, popA, catS, Value.category, List.length_cons, List.length_nil, Nat.reduceLT, Nat.reduceLeDiff, true_and, and_true, one0, zer1, imp_t, imp_f, ofN_nI, sdead, f20, f21, not_true_eq_false, upC_ap, upC_upC, retC, fitC, isRefT, Option.toList_some, Option.toList_none, List.cons_append, List.nil_append, Nat.lt_add_one, Nat.zero_lt_succ, Nat.le_refl, Nat.add_zero, Nat.zero_add, Nat.one_ne_zero, Nat.zero_ne_one, Nat.lt_irrefl, List.length_set, fa_X8_setAtOnce, hi, hd, hQ, mr_X8_setAtOnce, a0, a1, h0, h1]
      exact ⟨rfl, h, RFX.refl f⟩
theorem t8_setMode (hG : Ok G) (hd1 : 1 ≤ d) (h : XM S L lp N Z K ro to ko tb tl fk fp kp f n z) (t v : Int32) : Tr G d 121 [.ref 0, .int t, .int v] n z f (XQ (if tS S t ∧ ¬ v < 0 ∧ ¬ 3 < v then upS S 4 t.toNatClampNeg v else S) L lp N Z K ro to ko tb tl fk fp kp f (bI (tS S t ∧ ¬ v < 0 ∧ ¬ 3 < v))) := by
  have a0 := h.o
  obtain ⟨a1, kd, ya, fa, mo, co, mv, tp, my, -, -, -, -, -, -, a5, -⟩ := id h.cr
  refine Tr.of2 (ls0 := [.ref 0, .int t, .int v]) hG mo_X8_setMode (Nat.le_of_ble_eq_true rfl) rfl ?_
  intro X hi hd hXn hXz hXf hQ
  refine wp_sound (by rw [hi]; exact ok_X8_setMode) (hd := [8, 15]) 400 _ _ _ _ _ _ ?_
  simp only [wp, stp, List.mem_cons, List.not_mem_nil, Nat.reduceEqDiff, or_false, or_self, false_or, or_true, true_or, Nat.reduceAdd, ↓reduceIte, List.getElem?_cons_zero, List.getElem?_cons_succ, nthV, List.set_cons_zero, List.set_cons_succ, noL, popA, catS, Value.category, List.length_cons, List.length_nil, Nat.reduceLT, Nat.reduceLeDiff, true_and, and_true, one0, zer1, imp_t, imp_f, ofN_nI, sdead, f20, f21, not_true_eq_false, upC_ap, upC_upC, retC, fitC, isRefT, Option.toList_some, Option.toList_none, List.cons_append, List.nil_append, Nat.lt_add_one, Nat.zero_lt_succ, Nat.le_refl, Nat.add_zero, Nat.zero_add, Nat.one_ne_zero, Nat.zero_ne_one, Nat.lt_irrefl, List.length_set, fa_X8_setMode, hi, hd, hQ, mr_X8_setMode, a0, a1]
  refine ⟨hd1, _, t_isTent hG h.cr t, ?_⟩
  rintro w n1 z1 f1 ⟨rfl, rfl, rfl, rfl⟩
  refine wp_sound (by rw [hi]; exact ok_X8_setMode) (hd := [8, 15]) 400 _ _ _ _ _ _ ?_
  simp only [wp, stp, List.mem_cons, List.not_mem_nil, Nat.reduceEqDiff, or_false, or_self, false_or, or_true, true_or, Nat.reduceAdd, ↓reduceIte, List.getElem?_cons_zero, List.getElem?_cons_succ, nthV, List.set_cons_zero, List.set_cons_succ, noL, popA, catS, Value.category, List.length_cons, List.length_nil, Nat.reduceLT, Nat.reduceLeDiff, true_and, and_true, one0, zer1, imp_t, imp_f, ofN_nI, sdead, f20, f21, not_true_eq_false, upC_ap, upC_upC, retC, fitC, isRefT, Option.toList_some, Option.toList_none, List.cons_append, List.nil_append, Nat.lt_add_one, Nat.zero_lt_succ, Nat.le_refl, Nat.add_zero, Nat.zero_add, Nat.one_ne_zero, Nat.zero_ne_one, Nat.lt_irrefl, List.length_set, fa_X8_setMode, hi, hd, hQ, mr_X8_setMode, bI_0]
  refine ⟨fun q => XQ.no (fun q2 => q q2.1) h, fun q => ⟨hd1, _, t8_isMode hG v, ?_⟩⟩
  rintro w n1 z1 f1 ⟨rfl, rfl, rfl, rfl⟩
  have q := Decidable.not_not.mp q
  obtain ⟨k, hk, rfl⟩ := tS_nI h.bd q
  have hk10 := h.bd.1.2
  have hkk : (nI k).toNatClampNeg = k := nI_clamp (by omega)
  refine wp_sound (by rw [hi]; exact ok_X8_setMode) (hd := [8, 15]) 400 _ _ _ _ _ _ ?_
  simp only [wp, stp, List.mem_cons, List.not_mem_nil, Nat.reduceEqDiff, or_false, or_self, false_or, or_true, true_or, Nat.reduceAdd, ↓reduceIte, List.getElem?_cons_zero, List.getElem?_cons_succ, nthV, List.set_cons_zero, List.set_cons_succ, noL, popA, catS, Value.category, List.length_cons, List.length_nil, Nat.reduceLT, Nat.reduceLeDiff, true_and, and_true, one0, zer1, imp_t, imp_f, ofN_nI, sdead, f20, f21, not_true_eq_false, upC_ap, upC_upC, retC, fitC, isRefT, Option.toList_some, Option.toList_none, List.cons_append, List.nil_append, Nat.lt_add_one, Nat.zero_lt_succ, Nat.le_refl, Nat.add_zero, Nat.zero_add, Nat.one_ne_zero, Nat.zero_ne_one, Nat.lt_irrefl, List.length_set, fa_X8_setMode, hi, hd, hQ, mr_X8_setMode, bI_0, a0, a1, a5, hkk]
  refine ⟨fun q2 => ⟨(vin_nI (by omega)).mpr (by omega), XQ.yes ⟨q, Decidable.not_not.mp q2⟩ ?_⟩, fun q2 => XQ.no (fun q3 => q2 q3.2) h⟩
  exact h.camp (h.vk.smp (SmP.arr S 4 k v (by omega)) (by rw [upS_row (by omega)]; exact h.vk.1.2.2.2.2.1) (by rw [upS_row (by omega)]; exact h.vk.1.2.2.2.2.2.1)) (by rw [upS_row (by omega)]) (by rw [upS_row (by omega)]) (upS_row (by omega)) (h.cr.arr_4 a5 k v) (fun x hx => upC_ne _ _ (by omega))
theorem t8_told (hG : Ok G) (hd1 : 1 ≤ d) (h : XM S L lp N Z K ro to ko tb tl fk fp kp f n z) (t v : Int32) : Tr G d 111 [.ref 0, .int t, .int v] n z f (XQ (if tS S t ∧ ¬ v < -1 ∧ v ≤ 9999 then upS S 7 t.toNatClampNeg v else S) L lp N Z K ro to ko tb tl fk fp kp f (bI (tS S t ∧ ¬ v < -1 ∧ v ≤ 9999))) := by
  have a0 := h.o
  obtain ⟨a1, kd, ya, fa, mo, co, mv, tp, my, -, -, -, -, -, -, -, -, -, -, -, -, a8, -⟩ := id h.cr
  refine Tr.of2 (ls0 := [.ref 0, .int t, .int v]) hG mo_X8_told (Nat.le_of_ble_eq_true rfl) rfl ?_
  intro X hi hd hXn hXz hXf hQ
  refine wp_sound (by rw [hi]; exact ok_X8_told) (hd := [8]) 400 _ _ _ _ _ _ ?_
  simp only [wp, stp, List.mem_cons, List.not_mem_nil, Nat.reduceEqDiff, or_false, or_self, false_or, or_true, true_or, Nat.reduceAdd, ↓reduceIte, List.getElem?_cons_zero, List.getElem?_cons_succ, nthV, List.set_cons_zero, List.set_cons_succ, noL, popA, catS, Value.category, List.length_cons, List.length_nil, Nat.reduceLT, Nat.reduceLeDiff, true_and, and_true, one0, zer1, imp_t, imp_f, ofN_nI, sdead, f20, f21, not_true_eq_false, upC_ap, upC_upC, retC, fitC, isRefT, Option.toList_some, Option.toList_none, List.cons_append, List.nil_append, Nat.lt_add_one, Nat.zero_lt_succ, Nat.le_refl, Nat.add_zero, Nat.zero_add, Nat.one_ne_zero, Nat.zero_ne_one, Nat.lt_irrefl, List.length_set, fa_X8_told, hi, hd, hQ, mr_X8_told, a0, a1]
  refine ⟨hd1, _, t_isTent hG h.cr t, ?_⟩
  rintro w n1 z1 f1 ⟨rfl, rfl, rfl, rfl⟩
  by_cases q : tS S t
  · obtain ⟨k, hk, rfl⟩ := tS_nI h.bd q
    have hk10 := h.bd.1.2
    have hkk : (nI k).toNatClampNeg = k := nI_clamp (by omega)
    refine wp_sound (by rw [hi]; exact ok_X8_told) (hd := [8]) 400 _ _ _ _ _ _ ?_
    simp only [wp, stp, List.mem_cons, List.not_mem_nil, Nat.reduceEqDiff, or_false, or_self, false_or, or_true, true_or, Nat.reduceAdd, ↓reduceIte, List.getElem?_cons_zero, List.getElem?_cons_succ, nthV, List.set_cons_zero, List.set_cons_succ, noL, popA, catS, Value.category, List.length_cons, List.length_nil, Nat.reduceLT, Nat.reduceLeDiff, true_and, and_true, one0, zer1, imp_t, imp_f, ofN_nI, sdead, f20, f21, not_true_eq_false, upC_ap, upC_upC, retC, fitC, isRefT, Option.toList_some, Option.toList_none, List.cons_append, List.nil_append, Nat.lt_add_one, Nat.zero_lt_succ, Nat.le_refl, Nat.add_zero, Nat.zero_add, Nat.one_ne_zero, Nat.zero_ne_one, Nat.lt_irrefl, List.length_set, fa_X8_told, hi, hd, hQ, mr_X8_told, bI_t q, a0, a1, a8, hkk]
    refine ⟨fun q2 => XQ.no (fun q3 => q3.2.1 q2) h, fun q2 => ⟨fun q4 => ⟨(vin_nI (by omega)).mpr (by omega), XQ.yes ⟨q, q2, q4⟩ ?_⟩, fun q4 => XQ.no (fun q3 => q4 q3.2.2) h⟩⟩
    exact h.camp (h.vk.smp (SmP.arr S 7 k v (by omega)) (by rw [upS_row (by omega)]; exact h.vk.1.2.2.2.2.1) (by rw [upS_row (by omega)]; exact h.vk.1.2.2.2.2.2.1)) (by rw [upS_row (by omega)]) (by rw [upS_row (by omega)]) (upS_row (by omega)) (h.cr.arr_7 a8 k v) (fun x hx => upC_ne _ _ (by omega))
  · refine wp_sound (by rw [hi]; exact ok_X8_told) (hd := [8]) 400 _ _ _ _ _ _ ?_
    simp only [wp, stp, List.mem_cons, List.not_mem_nil, Nat.reduceEqDiff, or_false, or_self, false_or, or_true, true_or, Nat.reduceAdd, ↓reduceIte, List.getElem?_cons_zero, List.getElem?_cons_succ, nthV, List.set_cons_zero, List.set_cons_succ, noL, popA, catS, Value.category, List.length_cons, List.length_nil, Nat.reduceLT, Nat.reduceLeDiff, true_and, and_true, one0, zer1, imp_t, imp_f, ofN_nI, sdead, f20, f21, not_true_eq_false, upC_ap, upC_upC, retC, fitC, isRefT, Option.toList_some, Option.toList_none, List.cons_append, List.nil_append, Nat.lt_add_one, Nat.zero_lt_succ, Nat.le_refl, Nat.add_zero, Nat.zero_add, Nat.one_ne_zero, Nat.zero_ne_one, Nat.lt_irrefl, List.length_set, fa_X8_told, hi, hd, hQ, mr_X8_told, bI_f q]
    first | exact XQ.no (fun q2 => q q2.1) h | exact fun _ => XQ.no (fun q2 => q q2.1) h
theorem inS_nI {y : Int32} (h : inS S y) : ∃ c, c < 100 ∧ y = nI c := by
  obtain ⟨j, hj, e⟩ := nI_of2 (M := 99) (n := 99) rfl h.1.1 (by
    have h2 := h.1.2
    have : (99 : Int32).toInt = 99 := rfl
    have : (100 : Int32).toInt = 100 := rfl
    rw [Int32.le_iff_toInt_le] at h2 ⊢
    omega)
  exact ⟨j, by omega, e⟩
theorem t8_putTent (hG : Ok G) (hd1 : 3 ≤ d) (h : XM S L lp N Z K ro to ko tb tl fk fp kp f n z) (t y : Int32) : Tr G d 122 [.ref 0, .int t, .int y] n z f (XQ (if tS S t ∧ csS S y t (S 3 t.toNatClampNeg) then upS S 2 t.toNatClampNeg y else S) L lp N Z K ro to ko tb tl fk fp kp f (bI (tS S t ∧ csS S y t (S 3 t.toNatClampNeg)))) := by
  have a0 := h.o
  obtain ⟨a1, kd, ya, fa, mo, co, mv, tp, my, -, -, a3, -, a4, a4', -⟩ := id h.cr
  refine Tr.of2 (ls0 := [.ref 0, .int t, .int y]) hG mo_X8_putTent (Nat.le_of_ble_eq_true rfl) rfl ?_
  intro X hi hd hXn hXz hXf hQ
  refine wp_sound (by rw [hi]; exact ok_X8_putTent) (hd := [8, 29]) 400 _ _ _ _ _ _ ?_
  simp only [wp, stp, List.mem_cons, List.not_mem_nil, Nat.reduceEqDiff, or_false, or_self, false_or, or_true, true_or, Nat.reduceAdd, ↓reduceIte, List.getElem?_cons_zero, List.getElem?_cons_succ, nthV, List.set_cons_zero, List.set_cons_succ, noL, popA, catS, Value.category, List.length_cons, List.length_nil, Nat.reduceLT, Nat.reduceLeDiff, true_and, and_true, one0, zer1, imp_t, imp_f, ofN_nI, sdead, f20, f21, not_true_eq_false, upC_ap, upC_upC, retC, fitC, isRefT, Option.toList_some, Option.toList_none, List.cons_append, List.nil_append, Nat.lt_add_one, Nat.zero_lt_succ, Nat.le_refl, Nat.add_zero, Nat.zero_add, Nat.one_ne_zero, Nat.zero_ne_one, Nat.lt_irrefl, List.length_set, fa_X8_putTent, hi, hd, hQ, mr_X8_putTent, a0, a1]
  refine ⟨by omega, _, t_isTent hG h.cr t, ?_⟩
  rintro w n1 z1 f1 ⟨rfl, rfl, rfl, rfl⟩
  by_cases q : tS S t
  · obtain ⟨k, hk, rfl⟩ := tS_nI h.bd q
    have hk10 := h.bd.1.2
    have hkk : (nI k).toNatClampNeg = k := nI_clamp (by omega)
    have ef := a4' k hk
    refine wp_sound (by rw [hi]; exact ok_X8_putTent) (hd := [8, 29]) 400 _ _ _ _ _ _ ?_
    simp only [wp, stp, List.mem_cons, List.not_mem_nil, Nat.reduceEqDiff, or_false, or_self, false_or, or_true, true_or, Nat.reduceAdd, ↓reduceIte, List.getElem?_cons_zero, List.getElem?_cons_succ, nthV, List.set_cons_zero, List.set_cons_succ, noL, popA, catS, Value.category, List.length_cons, List.length_nil, Nat.reduceLT, Nat.reduceLeDiff, true_and, and_true, one0, zer1, imp_t, imp_f, ofN_nI, sdead, f20, f21, not_true_eq_false, upC_ap, upC_upC, retC, fitC, isRefT, Option.toList_some, Option.toList_none, List.cons_append, List.nil_append, Nat.lt_add_one, Nat.zero_lt_succ, Nat.le_refl, Nat.add_zero, Nat.zero_add, Nat.one_ne_zero, Nat.zero_ne_one, Nat.lt_irrefl, List.length_set, fa_X8_putTent, hi, hd, hQ, mr_X8_putTent, bI_t q, a0, a1, a3, a4, hkk, ef]
    refine ⟨(vin_nI (by omega)).mpr (by omega), by omega, _, t_couldStand hG (by omega) h.cr h.bd y (nI k) (S 3 k), ?_⟩
    rintro w n2 z2 f2 ⟨rfl, rfl, rfl, rfl⟩
    refine wp_sound (by rw [hi]; exact ok_X8_putTent) (hd := [8, 29]) 400 _ _ _ _ _ _ ?_
    simp only [wp, stp, List.mem_cons, List.not_mem_nil, Nat.reduceEqDiff, or_false, or_self, false_or, or_true, true_or, Nat.reduceAdd, ↓reduceIte, List.getElem?_cons_zero, List.getElem?_cons_succ, nthV, List.set_cons_zero, List.set_cons_succ, noL, popA, catS, Value.category, List.length_cons, List.length_nil, Nat.reduceLT, Nat.reduceLeDiff, true_and, and_true, one0, zer1, imp_t, imp_f, ofN_nI, sdead, f20, f21, not_true_eq_false, upC_ap, upC_upC, retC, fitC, isRefT, Option.toList_some, Option.toList_none, List.cons_append, List.nil_append, Nat.lt_add_one, Nat.zero_lt_succ, Nat.le_refl, Nat.add_zero, Nat.zero_add, Nat.one_ne_zero, Nat.zero_ne_one, Nat.lt_irrefl, List.length_set, fa_X8_putTent, hi, hd, hQ, mr_X8_putTent, bI_0, a0, a1, a3, hkk]
    refine ⟨fun q2 => ⟨(vin_nI (by omega)).mpr (by omega), XQ.yes ⟨q, Decidable.not_not.mp q2⟩ ?_⟩, fun q2 => XQ.no (fun q3 => q2 q3.2) h⟩
    have q2 := Decidable.not_not.mp q2
    obtain ⟨c, hc, rfl⟩ := inS_nI q2.1.1.1
    exact h.camp ⟨h.vk.1.mv hk hc q2, by rw [upS_row (by omega)]; exact h.vk.2⟩ (by rw [upS_row (by omega)]) (by rw [upS_row (by omega)]) (upS_row (by omega)) (h.cr.arr_2 a3 k _) (fun x hx => upC_ne _ _ (by omega))
  · refine wp_sound (by rw [hi]; exact ok_X8_putTent) (hd := [8, 29]) 400 _ _ _ _ _ _ ?_
    simp only [wp, stp, List.mem_cons, List.not_mem_nil, Nat.reduceEqDiff, or_false, or_self, false_or, or_true, true_or, Nat.reduceAdd, ↓reduceIte, List.getElem?_cons_zero, List.getElem?_cons_succ, nthV, List.set_cons_zero, List.set_cons_succ, noL, popA, catS, Value.category, List.length_cons, List.length_nil, Nat.reduceLT, Nat.reduceLeDiff, true_and, and_true, one0, zer1, imp_t, imp_f, ofN_nI, sdead, f20, f21, not_true_eq_false, upC_ap, upC_upC, retC, fitC, isRefT, Option.toList_some, Option.toList_none, List.cons_append, List.nil_append, Nat.lt_add_one, Nat.zero_lt_succ, Nat.le_refl, Nat.add_zero, Nat.zero_add, Nat.one_ne_zero, Nat.zero_ne_one, Nat.lt_irrefl, List.length_set, fa_X8_putTent, hi, hd, hQ, mr_X8_putTent, bI_f q]
    first | exact XQ.no (fun q2 => q q2.1) h | exact fun _ => XQ.no (fun q2 => q q2.1) h
end X8a
