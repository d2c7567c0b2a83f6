-- FarFromAnybody: the image
set_option maxRecDepth 100000
set_option maxHeartbeats 4000000
section X8p
variable {G : Gam} {d : Nat} {S S' : Sta} {L L' : Lw} {lp N Z K n n' z z' tl i : Nat} {ro to ko : Option Nat} {tb : Nat → Nat} {fk fp : Int32} {kp : Option (Sta × Lw)} {f f' : Mf}
/-- the kept camp: where it is, apart from all others -/
def KpA (n lp k : Nat) (ro to : Option Nat) : Prop := (49 ≤ k ∧ k + 9 ≤ n) ∧ ap2 k 9 lp 2 ∧ (∀ r, ro = some r → ap2 r 5 k 9) ∧ ∀ t, to = some t → ap2 t 5 k 9
/-- an image is taken -/
theorem XM.tak {N' Z' k : Nat} (h : XM S L lp N Z K ro to ko tb tl fk fp kp f n z) (hn : n ≤ n') (hz : z ≤ z') (hN : N + (n' - n) = N') (hZ : Z + (z' - z) = Z') (hNC : N' ≤ CAP) (hZC : Z' ≤ SCAP) (hk : KpA n' lp k ro to) (hnk : n ≤ k ∨ ∀ x, k ≤ x → x ≤ k + 8 → ¬ RowC (f x)) (hC : CRq S lp k f') (hf : ∀ x, ¬ x = 0 → ¬ (k ≤ x ∧ x ≤ k + 8) → x < n ∨ 1000000 ≤ x → f' x = f x) (h0 : f' 0 = cO 8 [.ref 1, .ref 12, .ref 16, .ref 20, .ref 22, .ref 24, .ref 28, .ref 30, .int (nI tl), .int fk, .int fp, fO ro, fO to, .ref k]) : XM S L lp N' Z' K ro to (some k) tb tl fk fp (some (S, L)) f' n' z' ∧ RFX f f' := by
  obtain ⟨h49, hnN, hzZ, -, -⟩ := h.n49
  obtain ⟨l1, l2, -, -⟩ := h.lw
  have hCAP : CAP = 600000 := rfl
  obtain ⟨b1, b2, b3⟩ := h.2.2.2.2.2.1
  obtain ⟨k1, k2, k3, k4⟩ := hk
  obtain ⟨w1, w2⟩ := h.2.2.2.1
  have la := w1.2.2.2.1
  have k2' := k2
  unfold ap2 at k2'
  have e0 : f' lp = f lp := hf _ (by omega) (by omega) (by omega)
  have e1 : f' (lp + 1) = f (lp + 1) := hf _ (by omega) (by omega) (by omega)
  refine h.gen hn hz hN hZ hNC hZC (fun x a b c => hf x (by omega) (by omega) (by omega)) (fun x a b c => hf x (by omega) (fun q => ?_) (by omega)) e0 e1 (fun x a => hf x (by omega) (by omega) (by omega)) (h.tp.eq (hf 30 (by omega) (by omega) (by omega))) h0 (b1.keep hn (fun t e => (b1 t e).2.1) (fun t e x a b => ?_)) (b2.keep hn (fun t e => (b2 t e).2.1) (fun t e x a b => ?_)) ⟨k1, k2, h.1, k3, k4, lp, hC, la.co w2 e0 e1 hn, w2.co e0, k2, fun r e => (b1 r e).2.1, fun t e => (b2 t e).2.1⟩ h.2.2.2.2.2.2
  · rcases hnk with q2 | q2
    · omega
    · exact q2 x q.1 q.2 c
  · have q1 := (b1 t e).1
    have q2 := k3 t e
    unfold ap2 at q2
    exact hf x (by omega) (by omega) (by omega)
  · have q1 := (b2 t e).1
    have q2 := k4 t e
    unfold ap2 at q2
    exact hf x (by omega) (by omega) (by omega)
/-- the image comes back -/
theorem XM.bak {A : List Nat} {k lq K' : Nat} (h : XM S L lp N Z K ro to (some k) tb tl fk fp (some (S', L')) f n z) (hq : CRq S' lq k f ∧ LawA f n lq L' ∧ LwP f lq L' ∧ ap2 k 9 lq 2 ∧ (∀ r, ro = some r → ap2 r 5 lq 2) ∧ ∀ t, to = some t → ap2 t 5 lq 2) (hW : CW S' L' lq N Z K' f' n z) (hF : FRM A f n f') (hA : ∀ x, x ∈ A → (1 ≤ x ∧ x ≤ 9) ∨ (12 ≤ x ∧ x ≤ 23)) : XM S' L' lq N Z K' ro to (some k) tb tl fk fp (some (S', L')) f' n z ∧ RFX f f' := by
  have no : ∀ x, ¬ ((1 ≤ x ∧ x ≤ 9) ∨ (12 ≤ x ∧ x ≤ 23)) → x ∉ A := fun x a b => a (hA x b)
  obtain ⟨⟨v1, v2⟩, ⟨m1, m2⟩, ⟨⟨a, ha⟩, ⟨wi, go, pa, hw⟩, st, hs⟩, ⟨w1, w2⟩, m3, ⟨b1, b2, b3⟩, b4⟩ := h
  obtain ⟨g1, g2, g3, g4, g5, g6⟩ := hq
  obtain ⟨h1, h2, h3, h4, h5, -⟩ := b3
  refine ⟨⟨h3, ⟨m1.old hF.2.2, m2.eq (hF.1 30 (by omega) (no 30 (by omega)))⟩, ⟨⟨a, ha.cong (hF.1 28 (by omega) (no 28 (by omega)))⟩, ⟨wi, go, pa, hw.cong (fun x a b => hF.1 x (by omega) (no x (by omega)))⟩, st, by rw [hF.1 29 (by omega) (no 29 (by omega))]; exact hs⟩, ⟨hW, g3.frm hF (no 10 (by omega)) g2.at.1 g2.at.2⟩, ?_, ⟨fun r e => ?_, fun t e => ?_, h1, g4, h3, h4, h5, lq, g1.cong (fun x a b => hF.2.1 x (by omega) (by omega) (g1.row a b)), g2.frm hF ⟨no 10 (by omega), no 11 (by omega)⟩ (Nat.le_refl _), g3.frm hF (no 10 (by omega)) g2.at.1 g2.at.2, g4, g5, g6⟩, b4⟩, fun x a b => hF.1 x (by omega) (no x (by omega)), hF.2.2⟩
  · rw [hF.1 0 (by omega) (no 0 (by omega))]; exact m3
  · obtain ⟨c1, c2, c3⟩ := b1.frm hF (Nat.le_refl _) r e
    exact ⟨c1, g5 r e, c3⟩
  · obtain ⟨c1, c2, c3⟩ := b2.frm hF (Nat.le_refl _) t e
    exact ⟨c1, g6 t e, c3⟩
/-- how an image ends -/
def imR (S : Sta) (L : Lw) (lp N Z K : Nat) (ro to ko : Option Nat) (tb : Nat → Nat) (tl : Nat) (fk fp : Int32) (kp : Option (Sta × Lw)) (f : Mf) (b : Int32) : Po := fun v n' z' f' =>
  if b = 0 then (match kp with | none => XQ S L lp N Z K ro to ko tb tl fk fp kp f 0 v n' z' f' | some (S', L') => ∃ lp' K', K' ≤ K + 1 ∧ XQ S' L' lp' N Z K' ro to ko tb tl fk fp kp f 1 v n' z' f')
  else ∃ N' Z' ko', (N' ≤ N + 11 ∧ Z' ≤ Z + 200) ∧ XQ S L lp N' Z' K ro to ko' tb tl fk fp (some (S, L)) f 1 v n' z' f'
theorem t8_image (hG : Ok G) (hd1 : 4 ≤ d) (h : XM S L lp N Z K ro to ko tb tl fk fp kp f n z) (hK : K + 1 < 100000) (hN : N + 11 ≤ CAP) (hZ : Z + 200 ≤ SCAP) {b : Int32} (hb : b = 0 ∨ b = 1) : Tr G d 113 [.ref 0, .int b] n z f (imR S L lp N Z K ro to ko tb tl fk fp kp f b) := by
  have hCAP : CAP = 600000 := rfl
  have a0 := h.o
  have a1 := h.cr.at
  obtain ⟨h49, hnN, hzZ, hNC, hZC⟩ := h.n49
  refine Tr.of2 (ls0 := [.ref 0, .int b]) hG mo_X8_image (Nat.le_of_ble_eq_true rfl) rfl ?_
  intro X hi hd hXn hXz hXf hQ
  rcases hb with rfl | rfl
  · unfold imR at hQ
    simp only [if_true] at hQ
    cases ko with
    | none =>
      cases kp with
      | some q => exact h.2.2.2.2.2.1.2.2.elim
      | none =>
        simp only [fO] at a0
        refine wp_sound (by rw [hi]; exact ok_X8_image) (hd := [19, 33, 55, 59]) 400 _ _ _ _ _ _ ?_
        simp only [wp, stp, List.mem_cons, List.not_mem_nil, Nat.reduceEqDiff, or_false, or_self, false_or, or_true, true_or, Nat.reduceAdd, ↓reduceIte, List.getElem?_cons_zero, List.getElem?_cons_succ, nthV, List.set_cons_zero, List.set_cons_succ, noL, popA, catS, Value.category, List.length_cons, List.length_nil, Nat.reduceLT, Nat.reduceLeDiff, true_and, and_true, one0, zer1, imp_t, imp_f, ofN_nI, sdead, f20, f21, not_true_eq_false, upC_ap, upC_upC, retC, fitC, isRefT, Option.toList_some, Option.toList_none, List.cons_append, List.nil_append, Nat.lt_add_one, Nat.zero_lt_succ, Nat.le_refl, Nat.add_zero, Nat.zero_add, Nat.one_ne_zero, Nat.zero_ne_one, Nat.lt_irrefl, List.length_set, fa_X8_image, hi, hd, hQ, mr_X8_image, a0]
        exact fun _ => ⟨rfl, h, RFX.refl f⟩
    | some k =>
      cases kp with
      | none => exact h.2.2.2.2.2.1.2.2.elim
      | some q =>
        obtain ⟨S2, L2⟩ := q
        obtain ⟨h1, h2, h3, h4, h5, lq, h6⟩ := id h.2.2.2.2.2.1.2.2
        simp only [fO] at a0
        have ak := h6.1.1
        refine wp_sound (by rw [hi]; exact ok_X8_image) (hd := [19, 33, 55, 59]) 400 _ _ _ _ _ _ ?_
        simp only [wp, stp, List.mem_cons, List.not_mem_nil, Nat.reduceEqDiff, or_false, or_self, false_or, or_true, true_or, Nat.reduceAdd, ↓reduceIte, List.getElem?_cons_zero, List.getElem?_cons_succ, nthV, List.set_cons_zero, List.set_cons_succ, noL, popA, catS, Value.category, List.length_cons, List.length_nil, Nat.reduceLT, Nat.reduceLeDiff, true_and, and_true, one0, zer1, imp_t, imp_f, ofN_nI, sdead, f20, f21, not_true_eq_false, upC_ap, upC_upC, retC, fitC, isRefT, Option.toList_some, Option.toList_none, List.cons_append, List.nil_append, Nat.lt_add_one, Nat.zero_lt_succ, Nat.le_refl, Nat.add_zero, Nat.zero_add, Nat.one_ne_zero, Nat.zero_ne_one, Nat.lt_irrefl, List.length_set, fa_X8_image, hi, hd, hQ, mr_X8_image, a0, a1, ak]
        refine fun _ => ⟨by omega, _, t_copy hG (by omega) (p := 1) (q := k) (lq := lq) (by omega) (by omega) h.cr.q h6.1 h3.1.1.1.1 h3.1.1.2.2.2.2.2.1, ?_⟩
        rintro v n2 z2 f2 ⟨rfl, rfl, rfl, hC, hf⟩
        have h02 := (hf 0 (by omega)).trans a0
        have hF1 : FRM [1, 2, 3, 4, 5, 6, 7, 8, 9] f n2 f2 := ⟨fun x a b => hf x (by simp at b; omega), fun x a b c => hf x (by omega), fun x a => hf x (by omega)⟩
        have hW2 := CW2.more (S0 := S) (S := S) (S' := S2) (L' := L2) (lp' := lq) (n' := n2) (z' := z2) (f' := f2) h.2.2.2.1.1 (Nat.le_refl _) (Nat.le_refl _) (by omega) (by omega) (fun x hx => hf x (by omega)) hC.cr (h6.2.1.frm hF1 (by decide) (Nat.le_refl _))
        rw [Nat.sub_self, Nat.sub_self, Nat.add_zero, Nat.add_zero] at hW2
        refine wp_sound (by rw [hi]; exact ok_X8_image) (hd := [19, 33, 55, 59]) 400 _ _ _ _ _ _ ?_
        simp only [wp, stp, List.mem_cons, List.not_mem_nil, Nat.reduceEqDiff, or_false, or_self, false_or, or_true, true_or, Nat.reduceAdd, ↓reduceIte, List.getElem?_cons_zero, List.getElem?_cons_succ, nthV, List.set_cons_zero, List.set_cons_succ, noL, popA, catS, Value.category, List.length_cons, List.length_nil, Nat.reduceLT, Nat.reduceLeDiff, true_and, and_true, one0, zer1, imp_t, imp_f, ofN_nI, sdead, f20, f21, not_true_eq_false, upC_ap, upC_upC, retC, fitC, isRefT, Option.toList_some, Option.toList_none, List.cons_append, List.nil_append, Nat.lt_add_one, Nat.zero_lt_succ, Nat.le_refl, Nat.add_zero, Nat.zero_add, Nat.one_ne_zero, Nat.zero_ne_one, Nat.lt_irrefl, List.length_set, fa_X8_image, hi, hd, hQ, mr_X8_image, h02]
        refine ⟨by omega, _, t8_forgetWays hG (by omega) (ko := some k) h02 hW2 hK, ?_⟩
        rintro v n3 z3 f3 ⟨rfl, rfl, rfl, hW, hf3⟩
        have hF : FRM [1, 2, 3, 4, 5, 6, 7, 8, 9, 12, 16] f n3 f3 := ⟨fun x a b => by
          rw [hf3 x (by simp at b; omega) (by simp at b; omega), hf x (by simp at b; omega)], fun x a a' _ => by rw [hf3 x (by omega) (by omega), hf x (by omega)], fun x a => by rw [hf3 x (by omega) (by omega), hf x (by omega)]⟩
        have hX := h.bak h6 hW hF (by decide)
        refine wp_sound (by rw [hi]; exact ok_X8_image) (hd := [19, 33, 55, 59]) 400 _ _ _ _ _ _ ?_
        simp only [wp, stp, List.mem_cons, List.not_mem_nil, Nat.reduceEqDiff, or_false, or_self, false_or, or_true, true_or, Nat.reduceAdd, ↓reduceIte, List.getElem?_cons_zero, List.getElem?_cons_succ, nthV, List.set_cons_zero, List.set_cons_succ, noL, popA, catS, Value.category, List.length_cons, List.length_nil, Nat.reduceLT, Nat.reduceLeDiff, true_and, and_true, one0, zer1, imp_t, imp_f, ofN_nI, sdead, f20, f21, not_true_eq_false, upC_ap, upC_upC, retC, fitC, isRefT, Option.toList_some, Option.toList_none, List.cons_append, List.nil_append, Nat.lt_add_one, Nat.zero_lt_succ, Nat.le_refl, Nat.add_zero, Nat.zero_add, Nat.one_ne_zero, Nat.zero_ne_one, Nat.lt_irrefl, List.length_set, fa_X8_image, hi, hd, hQ, mr_X8_image]
        exact ⟨lq, K + 1, Nat.le_refl _, rfl, hX⟩
  · unfold imR at hQ
    simp only [show ¬ (1 : Int32) = 0 by decide, if_false] at hQ
    cases ko with
    | none =>
      simp only [fO] at a0
      have k0 : clK 0 = 19 := rfl
      refine wp_sound (by rw [hi]; exact ok_X8_image) (hd := [19, 33, 55, 59]) 400 _ _ _ _ _ _ ?_
      simp (disch := omega) only [wp, stp, List.mem_cons, List.not_mem_nil, Nat.reduceEqDiff, or_false, or_self, false_or, or_true, true_or, Nat.reduceAdd, ↓reduceIte, List.getElem?_cons_zero, List.getElem?_cons_succ, nthV, List.set_cons_zero, List.set_cons_succ, noL, popA, catS, Value.category, List.length_cons, List.length_nil, Nat.reduceLT, Nat.reduceLeDiff, true_and, and_true, one0, zer1, imp_t, imp_f, ofN_nI, sdead, f20, f21, not_true_eq_false, upC_self, upC_ne, upC_upC, retC, fitC, isRefT, Option.toList_some, Option.toList_none, List.cons_append, List.nil_append, Nat.lt_add_one, Nat.zero_lt_succ, Nat.le_refl, Nat.add_zero, Nat.zero_add, Nat.one_ne_zero, Nat.zero_ne_one, Nat.lt_irrefl, List.length_set, fa_X8_image, hi, hd, hQ, mr_X8_image, a0, a1, k0]
      refine ⟨by omega, by omega, by omega, _, t_campInit hG (by omega) (p := n) (by omega) (by omega) (upC_self _ _ _), ?_⟩
      rintro v n1 z1 f1 ⟨rfl, rfl, rfl, c1, c2, c3, c4⟩
      have e4 : ∀ x, ¬ (n ≤ x ∧ x ≤ n + 10) → f1 x = f x := fun x hx => by rw [c4 x hx, upC_ne _ _ (by omega)]
      have o1 := (e4 0 (by omega)).trans a0
      have o2 := (e4 1 (by omega)).trans a1
      have o3 := c1.1
      have hn0 : ¬ n = 0 := by omega
      refine wp_sound (by rw [hi]; exact ok_X8_image) (hd := [19, 33, 55, 59]) 400 _ _ _ _ _ _ ?_
      simp (disch := omega) only [wp, stp, List.mem_cons, List.not_mem_nil, Nat.reduceEqDiff, or_false, or_self, false_or, or_true, true_or, Nat.reduceAdd, ↓reduceIte, List.getElem?_cons_zero, List.getElem?_cons_succ, nthV, List.set_cons_zero, List.set_cons_succ, noL, popA, catS, Value.category, List.length_cons, List.length_nil, Nat.reduceLT, Nat.reduceLeDiff, true_and, and_true, one0, zer1, imp_t, imp_f, ofN_nI, sdead, f20, f21, not_true_eq_false, upC_self, upC_ne, upC_upC, retC, fitC, isRefT, Option.toList_some, Option.toList_none, List.cons_append, List.nil_append, Nat.lt_add_one, Nat.zero_lt_succ, Nat.le_refl, Nat.add_zero, Nat.zero_add, Nat.one_ne_zero, Nat.zero_ne_one, Nat.lt_irrefl, List.length_set, fa_X8_image, hi, hd, hQ, mr_X8_image, o1, o2, o3]
      refine ⟨by omega, _, t_copy hG (by omega) (p := n) (q := 1) (lq := lp) (by omega) (by omega) (c1.cong (fun x a b => upC_ne _ _ (by omega))) ((h.cr.off (fun k a b => (upC_ne _ _ (by omega)).trans (e4 k (by omega)))).q) h.bd h.vk.1.2.2.2.2.2.1, ?_⟩
      rintro v n2 z2 f2 ⟨rfl, rfl, rfl, hC, hf⟩
      obtain ⟨l1, l2, -, -⟩ := h.lw
      obtain ⟨b1, b2, b3⟩ := h.2.2.2.2.2.1
      have hX := h.tak (k := n) (n' := n + 11) (z' := z + 19 + 169) (f' := f2) (by omega) (by omega) rfl rfl (by omega) (by omega) ⟨by omega, Or.inr (by omega), fun r e => Or.inl (by have := (b1 r e).1; omega), fun t e => Or.inl (by have := (b2 t e).1; omega)⟩ (Or.inl (Nat.le_refl _)) hC (fun x a b c => by rw [hf x b, upC_ne _ _ a, e4 x (by omega)]) (by rw [hf 0 (by omega), upC_self]; rfl)
      refine wp_sound (by rw [hi]; exact ok_X8_image) (hd := [19, 33, 55, 59]) 400 _ _ _ _ _ _ ?_
      simp (disch := omega) only [wp, stp, List.mem_cons, List.not_mem_nil, Nat.reduceEqDiff, or_false, or_self, false_or, or_true, true_or, Nat.reduceAdd, ↓reduceIte, List.getElem?_cons_zero, List.getElem?_cons_succ, nthV, List.set_cons_zero, List.set_cons_succ, noL, popA, catS, Value.category, List.length_cons, List.length_nil, Nat.reduceLT, Nat.reduceLeDiff, true_and, and_true, one0, zer1, imp_t, imp_f, ofN_nI, sdead, f20, f21, not_true_eq_false, upC_self, upC_ne, upC_upC, retC, fitC, isRefT, Option.toList_some, Option.toList_none, List.cons_append, List.nil_append, Nat.lt_add_one, Nat.zero_lt_succ, Nat.le_refl, Nat.add_zero, Nat.zero_add, Nat.one_ne_zero, Nat.zero_ne_one, Nat.lt_irrefl, List.length_set, fa_X8_image, hi, hd, hQ, mr_X8_image]
      exact ⟨_, _, some n, ⟨by omega, by omega⟩, rfl, hX⟩
    | some k =>
      cases kp with
      | none => exact h.2.2.2.2.2.1.2.2.elim
      | some q =>
        obtain ⟨S2, L2⟩ := q
        obtain ⟨h1, h2, h3, h4, h5, lq, h6⟩ := id h.2.2.2.2.2.1.2.2
        simp only [fO] at a0
        have ak := h6.1.1
        refine wp_sound (by rw [hi]; exact ok_X8_image) (hd := [19, 33, 55, 59]) 400 _ _ _ _ _ _ ?_
        simp only [wp, stp, List.mem_cons, List.not_mem_nil, Nat.reduceEqDiff, or_false, or_self, false_or, or_true, true_or, Nat.reduceAdd, ↓reduceIte, List.getElem?_cons_zero, List.getElem?_cons_succ, nthV, List.set_cons_zero, List.set_cons_succ, noL, popA, catS, Value.category, List.length_cons, List.length_nil, Nat.reduceLT, Nat.reduceLeDiff, true_and, and_true, one0, zer1, imp_t, imp_f, ofN_nI, sdead, f20, f21, not_true_eq_false, upC_ap, upC_upC, retC, fitC, isRefT, Option.toList_some, Option.toList_none, List.cons_append, List.nil_append, Nat.lt_add_one, Nat.zero_lt_succ, Nat.le_refl, Nat.add_zero, Nat.zero_add, Nat.one_ne_zero, Nat.zero_ne_one, Nat.lt_irrefl, List.length_set, fa_X8_image, hi, hd, hQ, mr_X8_image, a0, a1, ak]
        refine ⟨by omega, _, t_copy hG (by omega) (p := k) (q := 1) (lq := lp) (by omega) (by omega) h6.1 h.cr.q h.bd h.vk.1.2.2.2.2.2.1, ?_⟩
        rintro v n2 z2 f2 ⟨rfl, rfl, rfl, hC, hf⟩
        have hX := h.tak (k := k) (Nat.le_refl _) (Nat.le_refl _) rfl rfl (by omega) (by omega) ⟨h1, h2, h4, h5⟩ (Or.inr (fun x a b => h6.1.row a b)) hC (fun x a b _ => hf x b) ((hf 0 (by omega)).trans a0)
        refine wp_sound (by rw [hi]; exact ok_X8_image) (hd := [19, 33, 55, 59]) 400 _ _ _ _ _ _ ?_
        simp only [wp, stp, List.mem_cons, List.not_mem_nil, Nat.reduceEqDiff, or_false, or_self, false_or, or_true, true_or, Nat.reduceAdd, ↓reduceIte, List.getElem?_cons_zero, List.getElem?_cons_succ, nthV, List.set_cons_zero, List.set_cons_succ, noL, popA, catS, Value.category, List.length_cons, List.length_nil, Nat.reduceLT, Nat.reduceLeDiff, true_and, and_true, one0, zer1, imp_t, imp_f, ofN_nI, sdead, f20, f21, not_true_eq_false, upC_ap, upC_upC, retC, fitC, isRefT, Option.toList_some, Option.toList_none, List.cons_append, List.nil_append, Nat.lt_add_one, Nat.zero_lt_succ, Nat.le_refl, Nat.add_zero, Nat.zero_add, Nat.one_ne_zero, Nat.zero_ne_one, Nat.lt_irrefl, List.length_set, fa_X8_image, hi, hd, hQ, mr_X8_image]
        exact ⟨_, _, some k, by omega, rfl, hX⟩
end X8p
