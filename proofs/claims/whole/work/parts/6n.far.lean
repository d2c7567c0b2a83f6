-- FarFromAnybody: the law's text
set_option maxRecDepth 100000
set_option maxHeartbeats 4000000
section X8n
variable {G : Gam} {d : Nat} {S S' : Sta} {L : Lw} {lp N Z K n n' z z' tl i : Nat} {ro to ko : Option Nat} {tb : Nat → Nat} {fk fp : Int32} {kp : Option (Sta × Lw)} {f f' : Mf}
theorem CR.lawp {lq : Nat} (h : CR S lp f) : CR S lq (upC f 1 (cO 0 [.int (S 0 0), .int (S 0 1), .int (S 0 2), .ref 2, .int (S 0 3), .ref 3, .ref 4, .ref 5, .ref 6, .ref 7, .ref 8, .int (S 0 4), .ref 9, .int (S 0 5), .int (S 0 6), .int (S 0 7), .int (S 0 8), .int (S 0 9), .ref lq])) := by
  obtain ⟨h1, kd, ya, fa, mo, co, mv, tp, my, h2, h2', h3, h3', h4, h4', h5, h5', h6, h6', h7, h7', h8, h8', h9, h9'⟩ := h
  exact ⟨upC_self _ _ _, kd, ya, fa, mo, co, mv, tp, my, by rw [upC_ne _ _ (by omega)]; exact h2, h2', by rw [upC_ne _ _ (by omega)]; exact h3, h3', by rw [upC_ne _ _ (by omega)]; exact h4, h4', by rw [upC_ne _ _ (by omega)]; exact h5, h5', by rw [upC_ne _ _ (by omega)]; exact h6, h6', by rw [upC_ne _ _ (by omega)]; exact h7, h7', by rw [upC_ne _ _ (by omega)]; exact h8, h8', by rw [upC_ne _ _ (by omega)]; exact h9, h9'⟩
theorem RdC.toM {r : Nat} {I kd pl vl st : Nat → Int32} (h : RdC f r I kd pl vl st) : rM f r I kd pl vl st = f := by
  obtain ⟨a0, a1, a2, a3, a4⟩ := h
  funext x
  unfold rM
  by_cases e0 : x = r
  · rw [if_pos e0, e0, a0]
  · by_cases e1 : x = r + 1
    · rw [if_neg e0, if_pos e1, e1, a1]
    · by_cases e2 : x = r + 2
      · rw [if_neg e0, if_neg e1, if_pos e2, e2, a2]
      · by_cases e3 : x = r + 3
        · rw [if_neg e0, if_neg e1, if_neg e2, if_pos e3, e3, a3]
        · by_cases e4 : x = r + 4
          · rw [if_neg e0, if_neg e1, if_neg e2, if_neg e3, if_pos e4, e4, a4]
          · rw [if_neg e0, if_neg e1, if_neg e2, if_neg e3, if_neg e4]
theorem RdC.of_rM {r : Nat} {I kd pl vl st : Nat → Int32} (hf : ∀ x, r ≤ x → x ≤ r + 4 → f' x = rM f r I kd pl vl st x) : RdC f' r I kd pl vl st :=
  ⟨(hf _ (by omega) (by omega)).trans rM_0, (hf _ (by omega) (by omega)).trans rM_1, (hf _ (by omega) (by omega)).trans rM_2, (hf _ (by omega) (by omega)).trans rM_3, (hf _ (by omega) (by omega)).trans rM_4⟩
/-- how the telling of a law ends -/
def txR (S : Sta) (L : Lw) (lp N Z K : Nat) (to ko : Option Nat) (tb : Nat → Nat) (tl : Nat) (kp : Option (Sta × Lw)) (f : Mf) : Po := fun v n' z' f' => match pLw (tK tb tl) (tV tb tl) 17 0 [] with
  | .inl (why, j) => ∃ N' Z' ro', (N' ≤ N + 7 ∧ Z' ≤ Z + 2900) ∧ XQ S L lp N' Z' K ro' to ko tb 0 (nI why) (nI (sqT tb tl j)) kp f (-1) v n' z' f'
  | .inr (_, ls) => ∃ lp' N' Z' ro' ae, (N' ≤ N + 7 ∧ Z' ≤ Z + 2900) ∧ XQ S (nI ls.length, ae, lwV ls) lp' N' Z' K ro' to ko tb 0 0 (-1) kp f (nI ls.length) v n' z' f'
theorem t8_text (hG : Ok G) (hd1 : 33 ≤ d) (h : XM S L lp N Z K ro to ko tb tl fk fp kp f n z) (hN : N + 7 ≤ CAP) (hZ : Z + 2900 ≤ SCAP) : Tr G d 98 [.ref 0] n z f (txR S L lp N Z K to ko tb tl kp f) := by
  have hCAP : CAP = 600000 := rfl
  refine Tr.of2 (ls0 := [.ref 0, dead]) hG mo_X8_text (Nat.le_of_ble_eq_true rfl) rfl ?_
  intro X hi hd hXn hXz hXf hQ
  have L18 : ∀ r N1 Z1 f1 n1 z1, XM S L lp N1 Z1 K (some r) to ko tb tl fk fp kp f1 n1 z1 → RFX f f1 → N1 ≤ N + 5 → Z1 ≤ Z + 2050 → V G X 18 [.ref 0, dead] [] n1 z1 f1 := by
    intro r N1 Z1 f1 n1 z1 h hR1 hN1 hZ1
    obtain ⟨h49, hnN, hzZ, hNC, hZC⟩ := h.n49
    have a0 := h.o
    have a1 := h.cr.at
    simp only [fO] at a0
    obtain ⟨b1, b2, b3⟩ := h.2.2.2.2.2.1
    obtain ⟨r1, r2, I0, kd0, pl0, vl0, st0, r3⟩ := b1 r rfl
    have ar := r3.1
    have ht : Tr G (d - 1) 56 [.ref r, .ref 30, .int (nI tl)] n1 z1 f1 (RdR f1 r n1 z1 tb tl) := by
      have := t_read (d := d - 1) (f0 := f1) (I := I0) (kd := kd0) (pl := pl0) (vl := vl0) (st := st0) (rp := r) (n := n1) (z := z1) hG (by omega) ⟨r1.2, r1.1⟩ (by omega) (by omega) h.2.1.1 h.tp
      rwa [r3.toM] at this
    have hr0 : ¬ r = 0 := by omega
    have hr1 : ¬ 0 = r := by omega
    refine wp_sound (by rw [hi]; exact ok_X8_text) (hd := [15, 33]) 400 _ _ _ _ _ _ ?_
    simp only [wp, stp, List.mem_cons, List.not_mem_nil, Nat.reduceEqDiff, or_false, or_self, false_or, or_true, true_or, Nat.reduceAdd, ↓reduceIte, List.getElem?_cons_zero, List.getElem?_cons_succ, nthV, List.set_cons_zero, List.set_cons_succ, noL, popA, catS, Value.category, List.length_cons, List.length_nil, Nat.reduceLT, Nat.reduceLeDiff, true_and, and_true, one0, zer1, imp_t, imp_f, ofN_nI, sdead, f20, f21, not_true_eq_false, upC_ap, upC_upC, retC, fitC, isRefT, Option.toList_some, Option.toList_none, List.cons_append, List.nil_append, Nat.lt_add_one, Nat.zero_lt_succ, Nat.le_refl, Nat.add_zero, Nat.zero_add, Nat.one_ne_zero, Nat.zero_ne_one, Nat.lt_irrefl, List.length_set, fa_X8_text, hi, hd, hQ, mr_X8_text, a0, ar]
    refine ⟨by omega, _, ht, ?_⟩
    intro v n2 z2 f2 hv
    unfold RdR at hv
    cases hp : pLw (tK tb tl) (tV tb tl) 17 0 [] with
    | inl q =>
      obtain ⟨why, j⟩ := q
      simp only [hp] at hv
      obtain ⟨rfl, ⟨rfl, rfl⟩, I', kd', pl', vl', st', rfl, e0, e1⟩ := hv
      have q0 : rM f1 r I' kd' pl' vl' st' 0 = cO 8 [.ref 1, .ref 12, .ref 16, .ref 20, .ref 22, .ref 24, .ref 28, .ref 30, .int (nI tl), .int fk, .int fp, .ref r, fO to, fO ko] := by rw [rM_o (by omega)]; exact a0
      refine wp_sound (by rw [hi]; exact ok_X8_text) (hd := [15, 33]) 400 _ _ _ _ _ _ ?_
      simp (disch := omega) only [wp, stp, List.mem_cons, List.not_mem_nil, Nat.reduceEqDiff, or_false, or_self, false_or, or_true, true_or, Nat.reduceAdd, ↓reduceIte, List.getElem?_cons_zero, List.getElem?_cons_succ, nthV, List.set_cons_zero, List.set_cons_succ, noL, popA, catS, Value.category, List.length_cons, List.length_nil, Nat.reduceLT, Nat.reduceLeDiff, true_and, and_true, one0, zer1, imp_t, imp_f, ofN_nI, sdead, f20, f21, not_true_eq_false, upC_self, upC_ne, upC_upC, retC, fitC, isRefT, Option.toList_some, Option.toList_none, List.cons_append, List.nil_append, Nat.lt_add_one, Nat.zero_lt_succ, Nat.le_refl, Nat.add_zero, Nat.zero_add, Nat.one_ne_zero, Nat.zero_ne_one, Nat.lt_irrefl, List.length_set, fa_X8_text, hi, hd, hQ, mr_X8_text, q0, rM_0, rO, e0, e1]
      unfold txR
      simp only [hp]
      have hX := h.redR (tl' := 0) (fk' := nI why) (fp' := nI (sqT tb tl j)) (f' := upC (rM f1 r I' kd' pl' vl' st') 0 (cO 8 [.ref 1, .ref 12, .ref 16, .ref 20, .ref 22, .ref 24, .ref 28, .ref 30, .int (nI 0), .int (nI why), .int (nI (sqT tb tl j)), .ref r, fO to, fO ko])) (I := I') (kd := kd') (pl := pl') (vl := vl') (st := st') (RdC.of_rM (fun x a b => upC_ne _ _ (by omega))) (fun x a b _ _ => by rw [upC_ne _ _ a, rM_o (by omega)]) (upC_self _ _ _) (Nat.zero_le _)
      exact ⟨N1, Z1, some r, by omega, rfl, hX.1, hR1.trans hX.2⟩
    | inr q =>
      obtain ⟨kk, ls⟩ := q
      simp only [hp] at hv
      obtain ⟨rfl, rfl, hz2, ae, hae, hLok, hLA, hLP, I', kd', pl', vl', st', ⟨e0, e1⟩, hf2⟩ := hv
      have q0 : f2 0 = cO 8 [.ref 1, .ref 12, .ref 16, .ref 20, .ref 22, .ref 24, .ref 28, .ref 30, .int (nI tl), .int fk, .int fp, .ref r, fO to, fO ko] := by rw [hf2 0 (by omega) (by omega), rM_o (by omega)]; exact a0
      have q1 := ((hf2 1 (by omega) (by omega)).trans (rM_o (by omega))).trans a1
      have qr : f2 r = cO 5 (rO r I') := (hf2 r (by omega) (by omega)).trans rM_0
      have qn : f2 n1 = cO 3 [.int (nI ls.length), .int ae, .ref (n1 + 1)] := hLP
      have hn0 : ¬ n1 = 0 := by omega
      have hn1 : ¬ n1 = 1 := by omega
      refine wp_sound (by rw [hi]; exact ok_X8_text) (hd := [15, 33]) 400 _ _ _ _ _ _ ?_
      simp (disch := omega) only [wp, stp, List.mem_cons, List.not_mem_nil, Nat.reduceEqDiff, or_false, or_self, false_or, or_true, true_or, Nat.reduceAdd, ↓reduceIte, List.getElem?_cons_zero, List.getElem?_cons_succ, nthV, List.set_cons_zero, List.set_cons_succ, noL, popA, catS, Value.category, List.length_cons, List.length_nil, Nat.reduceLT, Nat.reduceLeDiff, true_and, and_true, one0, zer1, imp_t, imp_f, ofN_nI, sdead, f20, f21, not_true_eq_false, upC_self, upC_ne, upC_upC, retC, fitC, isRefT, Option.toList_some, Option.toList_none, List.cons_append, List.nil_append, Nat.lt_add_one, Nat.zero_lt_succ, Nat.le_refl, Nat.add_zero, Nat.zero_add, Nat.one_ne_zero, Nat.zero_ne_one, Nat.lt_irrefl, List.length_set, fa_X8_text, hi, hd, hQ, mr_X8_text, q0, q1, qr, qn, rO, e0, e1]
      unfold txR
      simp only [hp]
      have hX := h.redR (tl' := 0) (fk' := 0) (fp' := -1) (f' := upC f2 0 (cO 8 [.ref 1, .ref 12, .ref 16, .ref 20, .ref 22, .ref 24, .ref 28, .ref 30, .int (nI 0), .int 0, .int (-1), .ref r, fO to, fO ko])) (I := I') (kd := kd') (pl := pl') (vl := vl') (st := st') (RdC.of_rM (fun x a b => (upC_ne _ _ (by omega)).trans (hf2 x (by omega) (by omega)))) (fun x a b c c' => by rw [upC_ne _ _ a, hf2 x c c', rM_o (by omega)]) (upC_self _ _ _) (Nat.zero_le _)
      obtain ⟨f3, hf3⟩ : ∃ f3, f3 = upC f2 0 (cO 8 [.ref 1, .ref 12, .ref 16, .ref 20, .ref 22, .ref 24, .ref 28, .ref 30, .int (nI 0), .int 0, .int (-1), .ref r, fO to, fO ko]) := ⟨_, rfl⟩
      rw [← hf3] at hX
      have hC3 := hX.1.cr.lawp (lq := n1)
      have hw := CW2.more (S0 := S) (S := S) (S' := S) (L' := (nI ls.length, ae, lwV ls)) (lp' := n1) (n' := n1 + 2) (z' := z2) (f' := upC f3 1 (cO 0 [.int (S 0 0), .int (S 0 1), .int (S 0 2), .ref 2, .int (S 0 3), .ref 3, .ref 4, .ref 5, .ref 6, .ref 7, .ref 8, .int (S 0 4), .ref 9, .int (S 0 5), .int (S 0 6), .int (S 0 7), .int (S 0 8), .int (S 0 9), .ref n1])) hX.1.2.2.2.1.1 (by omega) (by omega) (by omega) (by omega) (fun x hx => upC_ne _ _ (by omega)) hC3 (hLA.co hLP (by rw [upC_ne _ _ (by omega), hf3, upC_ne _ _ (by omega)]) (by rw [upC_ne _ _ (by omega), hf3, upC_ne _ _ (by omega)]) (Nat.le_refl _))
      have hY := hX.1.lawN (A := [1]) h.vk hLok hw.cw (hLP.co (by rw [upC_ne _ _ (by omega), hf3, upC_ne _ _ (by omega)])) ⟨fun x a b => upC_ne _ _ (by simp at b; omega), fun x a b c => upC_ne _ _ (by omega), fun x a => upC_ne _ _ (by omega)⟩ (by decide) (by omega)
      subst hf3
      exact ⟨n1, _, _, some r, ae, ⟨by omega, by omega⟩, rfl, hY.1, hR1.trans (hX.2.trans hY.2)⟩
  cases ro with
  | some r =>
    have a0 := h.o
    simp only [fO] at a0
    refine wp_sound (by rw [hi]; exact ok_X8_text) (hd := [15, 18, 33]) 400 _ _ _ _ _ _ ?_
    simp only [wp, stp, List.mem_cons, List.not_mem_nil, Nat.reduceEqDiff, or_false, or_self, false_or, or_true, true_or, Nat.reduceAdd, ↓reduceIte, List.getElem?_cons_zero, List.getElem?_cons_succ, nthV, List.set_cons_zero, List.set_cons_succ, noL, popA, catS, Value.category, List.length_cons, List.length_nil, Nat.reduceLT, Nat.reduceLeDiff, true_and, and_true, one0, zer1, imp_t, imp_f, ofN_nI, sdead, f20, f21, not_true_eq_false, upC_ap, upC_upC, retC, fitC, isRefT, Option.toList_some, Option.toList_none, List.cons_append, List.nil_append, Nat.lt_add_one, Nat.zero_lt_succ, Nat.le_refl, Nat.add_zero, Nat.zero_add, Nat.one_ne_zero, Nat.zero_ne_one, Nat.lt_irrefl, List.length_set, fa_X8_text, hi, hd, hQ, mr_X8_text, a0]
    exact L18 r N Z f n z h (RFX.refl f) (by omega) (by omega)
  | none =>
    obtain ⟨h49, hnN, hzZ, hNC, hZC⟩ := h.n49
    have a0 := h.o
    simp only [fO] at a0
    have k5 : clK 5 = 11 := rfl
    refine wp_sound (by rw [hi]; exact ok_X8_text) (hd := [15, 18, 33]) 400 _ _ _ _ _ _ ?_
    simp (disch := omega) only [wp, stp, List.mem_cons, List.not_mem_nil, Nat.reduceEqDiff, or_false, or_self, false_or, or_true, true_or, Nat.reduceAdd, ↓reduceIte, List.getElem?_cons_zero, List.getElem?_cons_succ, nthV, List.set_cons_zero, List.set_cons_succ, noL, popA, catS, Value.category, List.length_cons, List.length_nil, Nat.reduceLT, Nat.reduceLeDiff, true_and, and_true, one0, zer1, imp_t, imp_f, ofN_nI, sdead, f20, f21, not_true_eq_false, upC_self, upC_ne, upC_upC, retC, fitC, isRefT, Option.toList_some, Option.toList_none, List.cons_append, List.nil_append, Nat.lt_add_one, Nat.zero_lt_succ, Nat.le_refl, Nat.add_zero, Nat.zero_add, Nat.one_ne_zero, Nat.zero_ne_one, Nat.lt_irrefl, List.length_set, fa_X8_text, hi, hd, hQ, mr_X8_text, a0, k5]
    refine ⟨by omega, by omega, by omega, _, t_readerInit hG (by omega) (p := n) (by omega) (by omega) (upC_self _ _ _) h49, ?_⟩
    rintro v n1 z1 f1 ⟨rfl, rfl, rfl, I, kd, pl, vl, st, rfl⟩
    have o1 : rM (upC f n (Sum.inr (Sum.inr (5, new0 5)))) n I kd pl vl st 0 = _ := ((rM_o (by omega)).trans (upC_ne _ _ (by omega))).trans a0
    refine wp_sound (by rw [hi]; exact ok_X8_text) (hd := [15, 18, 33]) 400 _ _ _ _ _ _ ?_
    simp (disch := omega) only [wp, stp, List.mem_cons, List.not_mem_nil, Nat.reduceEqDiff, or_false, or_self, false_or, or_true, true_or, Nat.reduceAdd, ↓reduceIte, List.getElem?_cons_zero, List.getElem?_cons_succ, nthV, List.set_cons_zero, List.set_cons_succ, noL, popA, catS, Value.category, List.length_cons, List.length_nil, Nat.reduceLT, Nat.reduceLeDiff, true_and, and_true, one0, zer1, imp_t, imp_f, ofN_nI, sdead, f20, f21, not_true_eq_false, upC_self, upC_ne, upC_upC, retC, fitC, isRefT, Option.toList_some, Option.toList_none, List.cons_append, List.nil_append, Nat.lt_add_one, Nat.zero_lt_succ, Nat.le_refl, Nat.add_zero, Nat.zero_add, Nat.one_ne_zero, Nat.zero_ne_one, Nat.lt_irrefl, List.length_set, fa_X8_text, hi, hd, hQ, mr_X8_text, o1]
    have hX := h.newR (zz := 11 + 2003) (f' := upC (rM (upC f n (Sum.inr (Sum.inr (5, new0 5)))) n I kd pl vl st) 0 (cO 8 [.ref 1, .ref 12, .ref 16, .ref 20, .ref 22, .ref 24, .ref 28, .ref 30, .int (nI tl), .int fk, .int fp, .ref n, fO to, fO ko])) (by omega) (by omega) (RdC.of_rM (fun x a b => upC_ne _ _ (by omega))) (fun x a b => by rw [upC_ne _ _ a, rM_o (by omega), upC_ne _ _ (by omega)]) (upC_self _ _ _)
    rw [← Nat.add_assoc] at hX
    exact L18 n _ _ _ _ _ hX.1 hX.2 (by omega) (by omega)
end X8n
