-- FarFromAnybody: all placings
set_option maxRecDepth 100000
set_option maxHeartbeats 4000000
section X8o
variable {G : Gam} {d : Nat} {S S' : Sta} {L : Lw} {lp N Z K n n' z z' tl i : Nat} {ro to ko : Option Nat} {tb : Nat → Nat} {fk fp : Int32} {kp : Option (Sta × Lw)} {f f' : Mf}
/-- the placings are made -/
theorem XM.newT {zz : Nat} (h : XM S L lp N Z K ro none ko tb tl fk fp kp f n z) (hN : N + 5 ≤ CAP) (hZ : Z + zz ≤ SCAP) {an pl py bs : Nat → Int32} {cn : Int32} (hR : PL f' n an pl cn py bs) (hf : ∀ x, ¬ x = 0 → ¬ (n ≤ x ∧ x ≤ n + 4) → f' x = f x) (h0 : f' 0 = cO 8 [.ref 1, .ref 12, .ref 16, .ref 20, .ref 22, .ref 24, .ref 28, .ref 30, .int (nI tl), .int fk, .int fp, fO ro, .ref n, fO ko]) : XM S L lp (N + 5) (Z + zz) K ro (some n) ko tb tl fk fp kp f' (n + 5) (z + zz) ∧ RFX f f' := by
  obtain ⟨h49, hnN, hzZ, -, -⟩ := h.n49
  obtain ⟨l1, l2, -, -⟩ := h.lw
  have hCAP : CAP = 600000 := rfl
  obtain ⟨b1, b2, b3⟩ := h.2.2.2.2.2.1
  refine h.gen (by omega) (by omega) (by omega) (by omega) hN hZ (fun x a b c => hf x (by omega) (by omega)) (fun x a b c => hf x (by omega) (by omega)) (hf _ (by omega) (by omega)) (hf _ (by omega) (by omega)) (fun x a => hf x (by omega) (by omega)) (h.tp.eq (hf 30 (by omega) (by omega))) h0 (b1.keep (by omega) (fun t e => (b1 t e).2.1) (fun t e x a b => hf x (by have := (b1 t e).1; omega) (by have := (b1 t e).1; omega))) (fun r e => ?_) (b3.keep (b := n) (by omega) (Or.inl rfl) (Or.inr rfl) (Or.inl (by omega)) (fun x a _ b c => hf x (by omega) b) h49) (fun r t e1 e2 => ?_)
  · cases e
    exact ⟨by omega, Or.inr (by omega), an, pl, cn, py, bs, hR⟩
  · cases e2
    have := (b1 r e1).1
    exact Or.inl (by omega)
/-- all placings were tried -/
theorem XM.trT {t : Nat} (h : XM S L lp N Z K ro (some t) ko tb tl fk fp kp f n z) (hW : CW S L lp N Z K f' n' z') (hP : LwP f' lp L) {an pl py bs : Nat → Int32} {cn : Int32} (hR : PL f' t an pl cn py bs) (hF : FRB FP t 5 f n f') (hn : n ≤ n') : XM S L lp N Z K ro (some t) ko tb tl fk fp kp f' n' z' ∧ RFX f f' := by
  obtain ⟨v1, ⟨m1, m2⟩, ⟨⟨a, t1⟩, ⟨wi, go, pa, t2⟩, st, t3⟩, ⟨w1, w2⟩, m3, ⟨b1, b2, b3⟩, b4⟩ := h
  obtain ⟨q1, q2, -⟩ := b2 t rfl
  have no : ∀ x, ¬ (x = 13 ∨ x = 14 ∨ x = 15 ∨ x = 20 ∨ x = 21) → x ∉ FP := fun x a b => by simp at b; omega
  refine ⟨⟨v1, ⟨m1.old hF.2.2, m2.eq (hF.1 30 (by omega) (no 30 (by omega)))⟩, ⟨⟨a, t1.cong (hF.1 28 (by omega) (no 28 (by omega)))⟩, ⟨wi, go, pa, t2.cong (fun x a b => hF.1 x (by omega) (no x (by omega)))⟩, st, by rw [hF.1 29 (by omega) (no 29 (by omega))]; exact t3⟩, ⟨hW, hP⟩, ?_, ⟨fun r e => ?_, fun r e => ?_, b3.keep (b := t) hn (Or.inl rfl) (Or.inl rfl) (Or.inr (Or.inr ⟨rfl, rfl⟩)) (fun x a b c e => ?_) q1.1⟩, b4⟩, fun x a b => hF.1 x (by omega) (no x (by omega)), hF.2.2⟩
  · rw [hF.1 0 (by omega) (no 0 (by omega))]; exact m3
  · obtain ⟨h1, h2, I, kd, pl, vl, st, h3⟩ := b1 r e
    have h4 := b4 r t e rfl
    unfold ap2 at h4
    exact ⟨by omega, h2, I, kd, pl, vl, st, h3.cong (fun x a b => hF.2.1 x (by omega) (by omega) (h3.row a b) (by omega))⟩
  · cases e
    exact ⟨by omega, q2, an, pl, cn, py, bs, hR⟩
  · rcases Nat.lt_or_ge x 49 with q | q
    · exact hF.1 x q (no x (by omega))
    · exact hF.2.1 x q a b (by omega)
/-- may all placings be asked for -/
abbrev plcP (S : Sta) (k w : Int32) : Prop := ((¬ k < 1 ∧ ¬ 3 < k) ∧ ¬ w < 0 ∧ w ≤ 23) ∧ (¬ k < w - w / 10 * 10 ∧ ¬ 36 < S 0 0 * S 0 1) ∧ k ≤ nI (cnt1 (fun c => grS S (nI c)) 100)
theorem t8_placings (hG : Ok G) (hd1 : 7 ≤ d) (h : XM S L lp N Z K ro to ko tb tl fk fp kp f n z) (hN : N + 5 ≤ CAP) (hZ : Z + 2800 ≤ SCAP) (k w : Int32) : Tr G d 105 [.ref 0, .int k, .int w] n z f (fun v n' z' f' => if plcP S k w then (∃ N' Z' to' an0, (N' ≤ N + 5 ∧ Z' ≤ Z + 2800) ∧ an00 an0 ∧ XQ S L lp N' Z' K ro to' ko tb tl fk fp kp f (plS S L k.toNatClampNeg an0 w.toNatClampNeg) v n' z' f') else XQ S L lp N Z K ro to ko tb tl fk fp kp f (-1) v n' z' f') := by
  have hCAP : CAP = 600000 := rfl
  have a0 := h.o
  have a1 := h.cr.at
  refine Tr.of2 (ls0 := [.ref 0, .int k, .int w]) hG mo_X8_placings (Nat.le_of_ble_eq_true rfl) rfl ?_
  intro X hi hd hXn hXz hXf hQ
  by_cases hp : plcP S k w
  · simp only [if_pos hp] at hQ
    obtain ⟨⟨⟨p1, p2⟩, p3, p4⟩, ⟨p5, p6⟩, p7⟩ := id hp
    obtain ⟨kk, hkk, rfl⟩ : ∃ j, (j = 1 ∨ j = 2 ∨ j = 3) ∧ k = nI j := by
      have t1 : (1 : Int32).toInt = 1 := rfl
      have t3 : (3 : Int32).toInt = 3 := rfl
      have t0 : (0 : Int32).toInt = 0 := rfl
      obtain ⟨j, hj, rfl⟩ := nI_of2 (M := 3) (n := 3) rfl (fun hx => p1 (by rw [Int32.lt_iff_toInt_lt] at hx ⊢; omega)) (Int32.not_lt.mp p2)
      refine ⟨j, ?_, rfl⟩
      rcases Nat.lt_or_ge j 1 with r | r
      · exact absurd ((nI_ltI (b := 1) (by omega) (by omega)).mpr r) p1
      · omega
    obtain ⟨ww, hww, rfl⟩ := nI_of2 (M := 23) (n := 23) rfl p3 p4
    have hcw : (nI ww).toNatClampNeg = ww := nI_clamp (by omega)
    have hck : (nI kk).toNatClampNeg = kk := nI_clamp (by omega)
    rw [hcw, hck] at hQ
    have h36 : wdt S * hgt S ≤ 36 := by
      obtain ⟨-, -, wd, ht, e0, e1, hw1, hw2, hh1, hh2⟩ := h.bd
      have hm : wd * ht ≤ 10 * 10 := Nat.mul_le_mul hw2 hh2
      rw [e0, e1, pk_mul, show (36 : Int32) = nI 36 from rfl, nI_ltI (by omega) (by omega)] at p6
      unfold wdt hgt
      rw [e0, e1, nI_clamp (by omega), nI_clamp (by omega)]
      omega
    have L89 : ∀ t N1 Z1 f1 n1 z1, XM S L lp N1 Z1 K ro (some t) ko tb tl fk fp kp f1 n1 z1 → RFX f f1 → N1 ≤ N + 5 → Z1 ≤ Z + 2800 → V G X 89 [.ref 0, .int (nI kk), .int (nI ww)] [] n1 z1 f1 := by
      intro t N1 Z1 f1 n1 z1 h hR1 hN1 hZ1
      have a0 := h.o
      simp only [fO] at a0
      obtain ⟨b1, b2, b3⟩ := h.2.2.2.2.2.1
      obtain ⟨r1, r2, an, pl, cn, py, bs, r3⟩ := b2 t rfl
      have ar := r3.1
      unfold ap2 at r2
      refine wp_sound (by rw [hi]; exact ok_X8_placings) (hd := [57, 86, 97]) 400 _ _ _ _ _ _ ?_
      simp only [wp, stp, List.mem_cons, List.not_mem_nil, Nat.reduceEqDiff, or_false, or_self, false_or, or_true, true_or, Nat.reduceAdd, ↓reduceIte, List.getElem?_cons_zero, List.getElem?_cons_succ, nthV, List.set_cons_zero, List.set_cons_succ, noL, popA, catS, Value.category, List.length_cons, List.length_nil, Nat.reduceLT, Nat.reduceLeDiff, true_and, and_true, one0, zer1, imp_t, imp_f, ofN_nI, sdead, f20, f21, not_true_eq_false, upC_ap, upC_upC, retC, fitC, isRefT, Option.toList_some, Option.toList_none, List.cons_append, List.nil_append, Nat.lt_add_one, Nat.zero_lt_succ, Nat.le_refl, Nat.add_zero, Nat.zero_add, Nat.one_ne_zero, Nat.zero_ne_one, Nat.lt_irrefl, List.length_set, fa_X8_placings, hi, hd, hQ, mr_X8_placings, a0, ar]
      refine ⟨by omega, _, t_tryAll hG (by omega) h.vk.1 h36 r1.1 r1.2 (by omega) h.2.2.2.1.1 h.2.2.2.1.2 r3 hkk, ?_⟩
      rintro v n2 z2 f2 ⟨rfl, ⟨an0, an', pl', cn', py', bs', h00, rfl, hPL⟩, hW, hLP, hF, hn2⟩
      have hX := h.trT hW hLP hPL hF hn2
      have c0 := hX.1.o
      simp only [fO] at c0
      have c1 := hPL.1
      have c2 := hPL.2.1
      refine wp_sound (by rw [hi]; exact ok_X8_placings) (hd := [57, 86, 97]) 400 _ _ _ _ _ _ ?_
      simp only [wp, stp, List.mem_cons, List.not_mem_nil, Nat.reduceEqDiff, or_false, or_self, false_or, or_true, true_or, Nat.reduceAdd, ↓reduceIte, List.getElem?_cons_zero, List.getElem?_cons_succ, nthV, List.set_cons_zero, List.set_cons_succ, noL, popA, catS, Value.category, List.length_cons, List.length_nil, Nat.reduceLT, Nat.reduceLeDiff, true_and, and_true, one0, zer1, imp_t, imp_f, ofN_nI, sdead, f20, f21, not_true_eq_false, upC_ap, upC_upC, retC, fitC, isRefT, Option.toList_some, Option.toList_none, List.cons_append, List.nil_append, Nat.lt_add_one, Nat.zero_lt_succ, Nat.le_refl, Nat.add_zero, Nat.zero_add, Nat.one_ne_zero, Nat.zero_ne_one, Nat.lt_irrefl, List.length_set, fa_X8_placings, hi, hd, hQ, mr_X8_placings, c0, c1, c2, hcw]
      exact ⟨(vin_nI (by omega)).mpr (by omega), N1, Z1, some t, an0, ⟨by omega, by omega⟩, h00, rfl, hX.1, hR1.trans hX.2⟩
    have hg : ¬ (nI (cnt1 (fun c => grS S (nI c)) 100)) < nI kk := Int32.not_lt.mpr p7
    refine wp_sound (by rw [hi]; exact ok_X8_placings) (hd := [57, 86, 97]) 400 _ _ _ _ _ _ ?_
    simp only [wp, stp, List.mem_cons, List.not_mem_nil, Nat.reduceEqDiff, or_false, or_self, false_or, or_true, true_or, Nat.reduceAdd, ↓reduceIte, List.getElem?_cons_zero, List.getElem?_cons_succ, nthV, List.set_cons_zero, List.set_cons_succ, noL, popA, catS, Value.category, List.length_cons, List.length_nil, Nat.reduceLT, Nat.reduceLeDiff, true_and, and_true, one0, zer1, imp_t, imp_f, ofN_nI, sdead, f20, f21, not_true_eq_false, upC_ap, upC_upC, retC, fitC, isRefT, Option.toList_some, Option.toList_none, List.cons_append, List.nil_append, Nat.lt_add_one, Nat.zero_lt_succ, Nat.le_refl, Nat.add_zero, Nat.zero_add, Nat.one_ne_zero, Nat.zero_ne_one, Nat.lt_irrefl, List.length_set, fa_X8_placings, hi, hd, hQ, mr_X8_placings, a0, a1]
    refine ⟨fun q => absurd q p1, fun _ => ⟨fun q => absurd q p2, fun _ => ⟨fun q => absurd q p3, fun _ => ⟨fun _ => ⟨by decide, fun q => absurd q p5, fun _ => ⟨fun q => absurd q p6, fun _ => ⟨by omega, _, t_grassCount hG (by omega) h.cr, ?_⟩⟩⟩, fun q => absurd p4 q⟩⟩⟩⟩
    rintro v n2 z2 f2 ⟨rfl, rfl, rfl, rfl⟩
    cases to with
    | some t =>
      simp only [fO] at a0
      refine wp_sound (by rw [hi]; exact ok_X8_placings) (hd := [57, 86, 89, 97]) 400 _ _ _ _ _ _ ?_
      simp only [wp, stp, List.mem_cons, List.not_mem_nil, Nat.reduceEqDiff, or_false, or_self, false_or, or_true, true_or, Nat.reduceAdd, ↓reduceIte, List.getElem?_cons_zero, List.getElem?_cons_succ, nthV, List.set_cons_zero, List.set_cons_succ, noL, popA, catS, Value.category, List.length_cons, List.length_nil, Nat.reduceLT, Nat.reduceLeDiff, true_and, and_true, one0, zer1, imp_t, imp_f, ofN_nI, sdead, f20, f21, not_true_eq_false, upC_ap, upC_upC, retC, fitC, isRefT, Option.toList_some, Option.toList_none, List.cons_append, List.nil_append, Nat.lt_add_one, Nat.zero_lt_succ, Nat.le_refl, Nat.add_zero, Nat.zero_add, Nat.one_ne_zero, Nat.zero_ne_one, Nat.lt_irrefl, List.length_set, fa_X8_placings, hi, hd, hQ, mr_X8_placings, a0, p7]
      exact fun _ => L89 t N Z _ _ _ h (RFX.refl _) (by omega) (by omega)
    | none =>
      obtain ⟨h49, hnN, hzZ, hNC, hZC⟩ := h.n49
      simp only [fO] at a0
      have k4 : clK 4 = 7 := rfl
      obtain ⟨⟨bY, kn, fkk, fa, ne, a20⟩, -⟩ := h.2.2.2.1.1.2.2.2.2.1
      unfold KV at a20
      refine wp_sound (by rw [hi]; exact ok_X8_placings) (hd := [57, 86, 89, 97]) 400 _ _ _ _ _ _ ?_
      simp (disch := omega) only [wp, stp, List.mem_cons, List.not_mem_nil, Nat.reduceEqDiff, or_false, or_self, false_or, or_true, true_or, Nat.reduceAdd, ↓reduceIte, List.getElem?_cons_zero, List.getElem?_cons_succ, nthV, List.set_cons_zero, List.set_cons_succ, noL, popA, catS, Value.category, List.length_cons, List.length_nil, Nat.reduceLT, Nat.reduceLeDiff, true_and, and_true, one0, zer1, imp_t, imp_f, ofN_nI, sdead, f20, f21, not_true_eq_false, upC_self, upC_ne, upC_upC, retC, fitC, isRefT, Option.toList_some, Option.toList_none, List.cons_append, List.nil_append, Nat.lt_add_one, Nat.zero_lt_succ, Nat.le_refl, Nat.add_zero, Nat.zero_add, Nat.one_ne_zero, Nat.zero_ne_one, Nat.lt_irrefl, List.length_set, fa_X8_placings, hi, hd, hQ, mr_X8_placings, a0, a1, a20, p7, k4]
      refine fun _ => ⟨by omega, by omega, by omega, _, t_plInit hG (by omega) (p := n2) (by omega) (by omega) (upC_self _ _ _) (by rw [upC_ne _ _ (by omega)]; exact a1) (by rw [upC_ne _ _ (by omega)]; exact a20) h49, ?_⟩
      rintro v n3 z3 f3 ⟨rfl, rfl, rfl, hP3, hf3⟩
      have o1 := ((hf3 0 (by omega)).trans (upC_ne _ _ (by omega))).trans a0
      refine wp_sound (by rw [hi]; exact ok_X8_placings) (hd := [57, 86, 89, 97]) 400 _ _ _ _ _ _ ?_
      simp (disch := omega) only [wp, stp, List.mem_cons, List.not_mem_nil, Nat.reduceEqDiff, or_false, or_self, false_or, or_true, true_or, Nat.reduceAdd, ↓reduceIte, List.getElem?_cons_zero, List.getElem?_cons_succ, nthV, List.set_cons_zero, List.set_cons_succ, noL, popA, catS, Value.category, List.length_cons, List.length_nil, Nat.reduceLT, Nat.reduceLeDiff, true_and, and_true, one0, zer1, imp_t, imp_f, ofN_nI, sdead, f20, f21, not_true_eq_false, upC_self, upC_ne, upC_upC, retC, fitC, isRefT, Option.toList_some, Option.toList_none, List.cons_append, List.nil_append, Nat.lt_add_one, Nat.zero_lt_succ, Nat.le_refl, Nat.add_zero, Nat.zero_add, Nat.one_ne_zero, Nat.zero_ne_one, Nat.lt_irrefl, List.length_set, fa_X8_placings, hi, hd, hQ, mr_X8_placings, o1]
      have hX := h.newT (zz := 7 + 2761) (f' := upC f3 0 (cO 8 [.ref 1, .ref 12, .ref 16, .ref 20, .ref 22, .ref 24, .ref 28, .ref 30, .int (nI tl), .int fk, .int fp, fO ro, .ref n2, fO ko])) (by omega) (by omega) (hP3.cong (fun x a b => upC_ne _ _ (by omega))) (fun x a b => by rw [upC_ne _ _ a, hf3 x b, upC_ne _ _ (by omega)]) (upC_self _ _ _)
      rw [← Nat.add_assoc] at hX
      exact L89 n2 _ _ _ _ _ hX.1 hX.2 (by omega) (by omega)
  · simp only [if_neg hp] at hQ
    have no : XQ S L lp N Z K ro to ko tb tl fk fp kp f (-1) (some (.int (-1))) n z f := ⟨rfl, h, RFX.refl f⟩
    refine wp_sound (by rw [hi]; exact ok_X8_placings) (hd := [22, 57, 86, 97]) 400 _ _ _ _ _ _ ?_
    simp only [wp, stp, List.mem_cons, List.not_mem_nil, Nat.reduceEqDiff, or_false, or_self, false_or, or_true, true_or, Nat.reduceAdd, ↓reduceIte, List.getElem?_cons_zero, List.getElem?_cons_succ, nthV, List.set_cons_zero, List.set_cons_succ, noL, popA, catS, Value.category, List.length_cons, List.length_nil, Nat.reduceLT, Nat.reduceLeDiff, true_and, and_true, one0, zer1, imp_t, imp_f, ofN_nI, sdead, f20, f21, not_true_eq_false, upC_ap, upC_upC, retC, fitC, isRefT, Option.toList_some, Option.toList_none, List.cons_append, List.nil_append, Nat.lt_add_one, Nat.zero_lt_succ, Nat.le_refl, Nat.add_zero, Nat.zero_add, Nat.one_ne_zero, Nat.zero_ne_one, Nat.lt_irrefl, List.length_set, fa_X8_placings, hi, hd, hQ, mr_X8_placings, a0, a1]
    refine ⟨fun _ => no, fun p1 => ⟨fun _ => no, fun p2 => ⟨fun _ => no, fun p3 => ⟨fun p4 => ?_, fun _ => no⟩⟩⟩⟩
    refine wp_sound (by rw [hi]; exact ok_X8_placings) (hd := [57, 86, 97]) 400 _ _ _ _ _ _ ?_
    simp only [wp, stp, List.mem_cons, List.not_mem_nil, Nat.reduceEqDiff, or_false, or_self, false_or, or_true, true_or, Nat.reduceAdd, ↓reduceIte, List.getElem?_cons_zero, List.getElem?_cons_succ, nthV, List.set_cons_zero, List.set_cons_succ, noL, popA, catS, Value.category, List.length_cons, List.length_nil, Nat.reduceLT, Nat.reduceLeDiff, true_and, and_true, one0, zer1, imp_t, imp_f, ofN_nI, sdead, f20, f21, not_true_eq_false, upC_ap, upC_upC, retC, fitC, isRefT, Option.toList_some, Option.toList_none, List.cons_append, List.nil_append, Nat.lt_add_one, Nat.zero_lt_succ, Nat.le_refl, Nat.add_zero, Nat.zero_add, Nat.one_ne_zero, Nat.zero_ne_one, Nat.lt_irrefl, List.length_set, fa_X8_placings, hi, hd, hQ, mr_X8_placings, a0, a1]
    refine ⟨by decide, fun _ => no, fun p5 => ⟨fun _ => no, fun p6 => ⟨by omega, _, t_grassCount hG (by omega) h.cr, ?_⟩⟩⟩
    rintro v n2 z2 f2 ⟨rfl, rfl, rfl, rfl⟩
    refine wp_sound (by rw [hi]; exact ok_X8_placings) (hd := [57, 63, 86, 97]) 400 _ _ _ _ _ _ ?_
    simp only [wp, stp, List.mem_cons, List.not_mem_nil, Nat.reduceEqDiff, or_false, or_self, false_or, or_true, true_or, Nat.reduceAdd, ↓reduceIte, List.getElem?_cons_zero, List.getElem?_cons_succ, nthV, List.set_cons_zero, List.set_cons_succ, noL, popA, catS, Value.category, List.length_cons, List.length_nil, Nat.reduceLT, Nat.reduceLeDiff, true_and, and_true, one0, zer1, imp_t, imp_f, ofN_nI, sdead, f20, f21, not_true_eq_false, upC_ap, upC_upC, retC, fitC, isRefT, Option.toList_some, Option.toList_none, List.cons_append, List.nil_append, Nat.lt_add_one, Nat.zero_lt_succ, Nat.le_refl, Nat.add_zero, Nat.zero_add, Nat.one_ne_zero, Nat.zero_ne_one, Nat.lt_irrefl, List.length_set, fa_X8_placings, hi, hd, hQ, mr_X8_placings]
    exact ⟨fun p7 => absurd ⟨⟨⟨p1, p2⟩, p3, p4⟩, ⟨p5, p6⟩, p7⟩ hp, fun _ => no⟩
end X8o
