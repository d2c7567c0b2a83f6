-- FarFromAnybody: the tape is fed
set_option maxRecDepth 100000
set_option maxHeartbeats 4000000
theorem bv8_m (x : BitVec 32) : (x.signExtend 8).toNat = x.toNat % 256 := by
  rw [BitVec.signExtend_eq_setWidth_of_le _ (by omega), BitVec.toNat_setWidth]
theorem i8_mod (x : Int32) : x.toInt8 = (nI (x.toUInt32.toNat % 256)).toInt8 := by
  apply Int8.toBitVec_inj.mp
  apply BitVec.eq_of_toNat_eq
  show (x.toBitVec.signExtend 8).toNat = ((Int32.ofNat (x.toUInt32.toNat % 256)).toBitVec.signExtend 8).toNat
  rw [bv8_m, bv8_m]
  show x.toBitVec.toNat % 256 = (BitVec.ofNat 32 (x.toBitVec.toNat % 256)).toNat % 256
  rw [BitVec.toNat_ofNat]
  omega
/-- byte k of a number, the highest first -/
def byN (x : Int32) (k : Nat) : Nat := x.toUInt32.toNat / 2 ^ (24 - 8 * k) % 256
theorem byN_lt (x : Int32) (k : Nat) : byN x k < 256 := Nat.mod_lt _ (by omega)
theorem ush_0 (x : Int32) : ((x.toUInt32 >>> (((24 : Int32)).toUInt32 &&& Int32.toUInt32 31)).toInt32).toInt8.toInt32 = sb_b (byN x 0) := by
  rw [i8_mod]
  show (nI ((x.toUInt32 >>> (24 : UInt32)).toNat % 256)).toInt8.toInt32 = _
  rw [UInt32.toNat_shiftRight]
  show (nI ((x.toUInt32.toNat >>> 24) % 256)).toInt8.toInt32 = _
  rw [Nat.shiftRight_eq_div_pow]
  rfl
theorem ush_1 (x : Int32) : ((x.toUInt32 >>> (((16 : Int32)).toUInt32 &&& Int32.toUInt32 31)).toInt32).toInt8.toInt32 = sb_b (byN x 1) := by
  rw [i8_mod]
  show (nI ((x.toUInt32 >>> (16 : UInt32)).toNat % 256)).toInt8.toInt32 = _
  rw [UInt32.toNat_shiftRight]
  show (nI ((x.toUInt32.toNat >>> 16) % 256)).toInt8.toInt32 = _
  rw [Nat.shiftRight_eq_div_pow]
  rfl
theorem ush_2 (x : Int32) : ((x.toUInt32 >>> (((8 : Int32)).toUInt32 &&& Int32.toUInt32 31)).toInt32).toInt8.toInt32 = sb_b (byN x 2) := by
  rw [i8_mod]
  show (nI ((x.toUInt32 >>> (8 : UInt32)).toNat % 256)).toInt8.toInt32 = _
  rw [UInt32.toNat_shiftRight]
  show (nI ((x.toUInt32.toNat >>> 8) % 256)).toInt8.toInt32 = _
  rw [Nat.shiftRight_eq_div_pow]
  rfl
theorem ush_3 (x : Int32) : ((x.toUInt32 >>> (((0 : Int32)).toUInt32 &&& Int32.toUInt32 31)).toInt32).toInt8.toInt32 = sb_b (byN x 3) := by
  rw [i8_mod]
  show (nI ((x.toUInt32 >>> (0 : UInt32)).toNat % 256)).toInt8.toInt32 = _
  rw [UInt32.toNat_shiftRight]
  show (nI ((x.toUInt32.toNat >>> 0) % 256)).toInt8.toInt32 = _
  rw [Nat.shiftRight_eq_div_pow]
  rfl
theorem i8_i8 (x : Int32) : x.toInt8.toInt32.toInt8 = x.toInt8 := by
  first | exact Int8.toInt8_toInt32 _ | simp
/-- the tape with four bytes more -/
def tp4 (tb : Nat → Nat) (tl : Nat) (x : Int32) (k : Nat) : Nat → Nat := fun j => if tl ≤ j ∧ j < tl + k then byN x (j - tl) else tb j
section X8l
variable {G : Gam} {d : Nat} {S S' : Sta} {L : Lw} {lp N Z K n n' z z' tl i : Nat} {ro to ko : Option Nat} {tb : Nat → Nat} {fk fp : Int32} {kp : Option (Sta × Lw)} {f f' : Mf}
theorem CW.at2 (h : CW S L lp N Z K f n z) (hf : ∀ y, ¬ (y = 0 ∨ y = 30) → f' y = f y) : CW S L lp N Z K f' n z := by
  obtain ⟨c1, c2, c3, ⟨sp, m, st, kd, vl, ⟨l1, l2⟩, ⟨l3, l4⟩, l5, l6, l7, l8⟩, k1, k2, g1, g2, w1, w2, w3, w4, w5⟩ := h
  exact ⟨c1.off (fun k _ b => hf k (by omega)), c2.cong (fun y hy => hf y (by omega)), c3, ⟨sp, m, st, kd, vl, ⟨l1, l2⟩, ⟨l3, l4⟩, by rw [hf _ (by omega)]; exact l5, by rw [hf _ (by omega)]; exact l6, l7, l8⟩, k1.cong (hf _ (by omega)) (hf _ (by omega)), k2.cong (hf _ (by omega)) (hf _ (by omega)), g1, g2, w1.cong (Nat.le_refl _) (hf _ (by omega)) (hf _ (by omega)) (hf _ (by omega)) (hf _ (by omega)) (fun i p hi hp => hf p (by have := (w1.row hi hp).2.1; omega)), w2.cong (Nat.le_refl _) (hf _ (by omega)) (hf _ (by omega)) (hf _ (by omega)) (hf _ (by omega)) (fun i p hi hp => hf p (by have := (w2.row hi hp).2.1; omega)), w3, w4, w5⟩
/-- the object's own numbers and the tape -/
theorem XM.ob2 (h : XM S L lp N Z K ro to ko tb tl fk fp kp f n z) {tl' : Nat} {fk' fp' : Int32} {tb' : Nat → Nat} (hf : ∀ y, ¬ (y = 0 ∨ y = 30) → f' y = f y) (h0 : f' 0 = cO 8 [.ref 1, .ref 12, .ref 16, .ref 20, .ref 22, .ref 24, .ref 28, .ref 30, .int (nI tl'), .int fk', .int fp', fO ro, fO to, fO ko]) (hT : TpA f' 30 tl' tb') : XM S L lp N Z K ro to ko tb' tl' fk' fp' kp f' n z ∧ RFX f f' := by
  obtain ⟨v1, ⟨m1, m2⟩, ⟨⟨a, t1⟩, ⟨wi, go, pa, t2⟩, st, t3⟩, ⟨w1, w2⟩, m3, ⟨b1, b2, b3⟩, b4⟩ := h
  have hF : FRM [0, 30] f n f' := ⟨fun x a b => hf x (by simp at b; omega), fun x a _ _ => hf x (by omega), fun x a => hf x (by omega)⟩
  have la := w1.2.2.2.1
  exact ⟨⟨v1, ⟨m1.old hF.2.2, hT⟩, ⟨⟨a, t1.cong (hf 28 (by omega))⟩, ⟨wi, go, pa, t2.cong (fun x a b => hf x (by omega))⟩, st, by rw [hf 29 (by omega)]; exact t3⟩, ⟨w1.at2 hf, w2.frm hF (by decide) la.at.1 la.at.2⟩, h0, ⟨b1.frm hF (Nat.le_refl _), b2.frm hF (Nat.le_refl _), b3.frm hF (by decide) (Nat.le_refl _)⟩, b4⟩, fun x a b => hf x (by omega), hF.2.2⟩
theorem TpA.put {g : Nat → Int32} {x : Int32} {k : Nat} (h : TpA f 30 (tl + k) (tp4 tb tl x k)) (hg : f 30 = cB 400 g) (hl : tl + k < 400) {v : Int32} (hv : v = sb_b (byN x k)) {c0 : Cel} : TpA (upC (upC f 30 (cB 400 (upd g (tl + k) v))) 0 c0) 30 (tl + (k + 1)) (tp4 tb tl x (k + 1)) := by
  obtain ⟨g2, e1, e2, e3⟩ := h
  have e : g2 = g := by rw [hg] at e1; cases e1; rfl
  subst e
  refine ⟨upd g2 (tl + k) v, by rw [upC_ne _ _ (by omega), upC_self], by omega, fun j hj => ?_⟩
  rw [upd_ap]
  unfold tp4 at e3 ⊢
  by_cases q : j = tl + k
  · rw [if_pos q, if_pos (by omega), show j - tl = k by omega]
    exact ⟨byN_lt _ _, hv⟩
  · rw [if_neg q]
    have := e3 j (by omega)
    by_cases q2 : tl ≤ j
    · rw [if_pos (by omega)] at this ⊢; exact this
    · rw [if_neg (by omega)] at this ⊢; exact this
theorem t8_tapeNumber (hG : Ok G) (h : XM S L lp N Z K ro to ko tb tl fk fp kp f n z) (htl : tl + 4 ≤ 400) (x : Int32) : Tr G d 117 [.ref 0, .int x] n z f (fun v n' z' f' => v = none ∧ XM S L lp N Z K ro to ko (tp4 tb tl x 4) (tl + 4) fk fp kp f' n' z' ∧ RFX f f') := by
  refine Tr.of2 (ls0 := [.ref 0, .int x, dead]) hG mo_X8_tapeNumber (Nat.le_of_ble_eq_true rfl) rfl ?_
  intro X hi hd hXn hXz hXf hQ
  have L48 : ∀ f' s, XM S L lp N Z K ro to ko (tp4 tb tl x 4) (tl + 4) fk fp kp f' n z → RFX f f' → V G X 48 [.ref 0, .int x, s] [] n z f' := fun f' s hX hR => by
    refine wp_sound (by rw [hi]; exact ok_X8_tapeNumber) (hd := [3]) 400 _ _ _ _ _ _ ?_
    simp only [wp, stp, List.mem_cons, List.not_mem_nil, Nat.reduceEqDiff, or_false, or_self, false_or, or_true, true_or, Nat.reduceAdd, ↓reduceIte, List.getElem?_cons_zero, List.getElem?_cons_succ, nthV, List.set_cons_zero, List.set_cons_succ, noL, popA, catS, Value.category, List.length_cons, List.length_nil, Nat.reduceLT, Nat.reduceLeDiff, true_and, and_true, one0, zer1, imp_t, imp_f, ofN_nI, sdead, f20, f21, not_true_eq_false, upC_ap, upC_upC, retC, fitC, isRefT, Option.toList_some, Option.toList_none, List.cons_append, List.nil_append, Nat.lt_add_one, Nat.zero_lt_succ, Nat.le_refl, Nat.add_zero, Nat.zero_add, Nat.one_ne_zero, Nat.zero_ne_one, Nat.lt_irrefl, List.length_set, fa_X8_tapeNumber, hi, hd, hQ, mr_X8_tapeNumber]
    exact ⟨hX, hR⟩
  have step : ∀ k f' (s : Int32) (s' : Int32), k < 4 → ¬ s < 0 → s + -8 = s' → ((x.toUInt32 >>> (s.toUInt32 &&& Int32.toUInt32 31)).toInt32).toInt8.toInt32 = sb_b (byN x k) → XM S L lp N Z K ro to ko (tp4 tb tl x k) (tl + k) fk fp kp f' n z → RFX f f' → (∀ f', XM S L lp N Z K ro to ko (tp4 tb tl x (k + 1)) (tl + (k + 1)) fk fp kp f' n z → RFX f f' → V G X 3 [.ref 0, .int x, .int s'] [] n z f') → V G X 3 [.ref 0, .int x, .int s] [] n z f' := by
    intro k f' s s' hk hs hs' hb hX hR hk2
    have a0 := hX.o
    obtain ⟨g, a30, -⟩ := id hX.tp
    have hlt : ¬ nI 400 ≤ nI (tl + k) := by rw [nI_leI (by omega) (by omega)]; omega
    have hcl : (nI (tl + k)).toNatClampNeg = tl + k := nI_clamp (by omega)
    have hn1 : nI (tl + k) + 1 = nI (tl + (k + 1)) := by rw [nI_1]; rfl
    refine wp_sound (by rw [hi]; exact ok_X8_tapeNumber) (hd := [3]) 400 _ _ _ _ _ _ ?_
    simp only [wp, stp, List.mem_cons, List.not_mem_nil, Nat.reduceEqDiff, or_false, or_self, false_or, or_true, true_or, Nat.reduceAdd, ↓reduceIte, List.getElem?_cons_zero, List.getElem?_cons_succ, nthV, List.set_cons_zero, List.set_cons_succ, noL, popA, catS, Value.category, List.length_cons, List.length_nil, Nat.reduceLT, Nat.reduceLeDiff, true_and, and_true, one0, zer1, imp_t, imp_f, ofN_nI, sdead, f20, f21, not_true_eq_false, upC_ap, upC_upC, retC, fitC, isRefT, Option.toList_some, Option.toList_none, List.cons_append, List.nil_append, Nat.lt_add_one, Nat.zero_lt_succ, Nat.le_refl, Nat.add_zero, Nat.zero_add, Nat.one_ne_zero, Nat.zero_ne_one, Nat.lt_irrefl, List.length_set, fa_X8_tapeNumber, hi, hd, hQ, mr_X8_tapeNumber, a0, a30, hs, hlt, hcl, hb, hs', i8_i8, hn1]
    refine ⟨(vin_nI (by omega)).mpr (by omega), ?_⟩
    have hX2 := hX.ob2 (f' := upC (upC f' 30 (cB 400 (upd g (tl + k) (sb_b (byN x k)).toInt8.toInt32))) 0 (cO 8 [.ref 1, .ref 12, .ref 16, .ref 20, .ref 22, .ref 24, .ref 28, .ref 30, .int (nI (tl + (k + 1))), .int fk, .int fp, fO ro, fO to, fO ko])) (fun y hy => by rw [upC_ne _ _ (by omega), upC_ne _ _ (by omega)]) (upC_self _ _ _) (hX.tp.put a30 (by omega) (by show (nI (byN x k)).toInt8.toInt32.toInt8.toInt32 = _; rw [i8_i8]; rfl))
    exact hk2 _ hX2.1 (hR.trans hX2.2)
  have h0 : XM S L lp N Z K ro to ko (tp4 tb tl x 0) (tl + 0) fk fp kp f n z := by
    have e : tp4 tb tl x 0 = tb := by funext j; unfold tp4; rw [if_neg (by omega)]
    rw [e]; exact h
  refine wp_sound (by rw [hi]; exact ok_X8_tapeNumber) (hd := [3]) 400 _ _ _ _ _ _ ?_
  simp only [wp, stp, List.mem_cons, List.not_mem_nil, Nat.reduceEqDiff, or_false, or_self, false_or, or_true, true_or, Nat.reduceAdd, ↓reduceIte, List.getElem?_cons_zero, List.getElem?_cons_succ, nthV, List.set_cons_zero, List.set_cons_succ, noL, popA, catS, Value.category, List.length_cons, List.length_nil, Nat.reduceLT, Nat.reduceLeDiff, true_and, and_true, one0, zer1, imp_t, imp_f, ofN_nI, sdead, f20, f21, not_true_eq_false, upC_ap, upC_upC, retC, fitC, isRefT, Option.toList_some, Option.toList_none, List.cons_append, List.nil_append, Nat.lt_add_one, Nat.zero_lt_succ, Nat.le_refl, Nat.add_zero, Nat.zero_add, Nat.one_ne_zero, Nat.zero_ne_one, Nat.lt_irrefl, List.length_set, fa_X8_tapeNumber, hi, hd, hQ, mr_X8_tapeNumber]
  refine step 0 f 24 16 (by omega) (by decide) rfl (ush_0 x) h0 (RFX.refl f) (fun f1 h1 r1 => step 1 f1 16 8 (by omega) (by decide) rfl (ush_1 x) h1 r1 (fun f2 h2 r2 => step 2 f2 8 0 (by omega) (by decide) rfl (ush_2 x) h2 r2 (fun f3 h3 r3 => step 3 f3 0 (-8) (by omega) (by decide) rfl (ush_3 x) h3 r3 (fun f4 h4 r4 => ?_))))
  have hm8 : ((-8 : Int32) < 0) = True := eq_true (by decide)
  refine wp_sound (by rw [hi]; exact ok_X8_tapeNumber) (hd := [3, 48]) 400 _ _ _ _ _ _ ?_
  simp only [wp, stp, List.mem_cons, List.not_mem_nil, Nat.reduceEqDiff, or_false, or_self, false_or, or_true, true_or, Nat.reduceAdd, ↓reduceIte, List.getElem?_cons_zero, List.getElem?_cons_succ, nthV, List.set_cons_zero, List.set_cons_succ, noL, popA, catS, Value.category, List.length_cons, List.length_nil, Nat.reduceLT, Nat.reduceLeDiff, true_and, and_true, one0, zer1, imp_t, imp_f, ofN_nI, sdead, f20, f21, not_true_eq_false, upC_ap, upC_upC, retC, fitC, isRefT, Option.toList_some, Option.toList_none, List.cons_append, List.nil_append, Nat.lt_add_one, Nat.zero_lt_succ, Nat.le_refl, Nat.add_zero, Nat.zero_add, Nat.one_ne_zero, Nat.zero_ne_one, Nat.lt_irrefl, List.length_set, fa_X8_tapeNumber, hi, hd, hQ, mr_X8_tapeNumber, hm8]
  first | exact L48 _ _ h4 r4 | exact fun _ => L48 _ _ h4 r4
/-- the tape with what is fed -/
def fdB (tb : Nat → Nat) (tl : Nat) (a b c e g : Int32) : Nat → Nat := tp4 (tp4 (tp4 (tp4 (tp4 tb tl a 4) (tl + 4) b 4) (tl + 8) c 4) (tl + 12) e 4) (tl + 16) g 4
theorem t8_feed (hG : Ok G) (hd1 : 1 ≤ d) (h : XM S L lp N Z K ro to ko tb tl fk fp kp f n z) (a b c e g : Int32) : Tr G d 96 [.ref 0, .int a, .int b, .int c, .int e, .int g] n z f (fun v n' z' f' => if tl + 20 ≤ 400 then XQ S L lp N Z K ro to ko (fdB tb tl a b c e g) (tl + 20) fk fp kp f (nI (tl + 20)) v n' z' f' else XQ S L lp N Z K ro to ko tb tl fk fp kp f (-1) v n' z' f') := by
  have a0 := h.o
  have hl := h.tp.len
  have hk : nI tl + 20 ≤ 400 ↔ tl ≤ 380 := by
    rw [show (20 : Int32) = nI 20 from rfl, show (400 : Int32) = nI 400 from rfl, nI_add, nI_leI (by omega) (by omega)]
    omega
  refine Tr.of2 (ls0 := [.ref 0, .int a, .int b, .int c, .int e, .int g]) hG mo_X8_feed (Nat.le_of_ble_eq_true rfl) rfl ?_
  intro X hi hd hXn hXz hXf hQ
  by_cases hp : tl + 20 ≤ 400
  · simp only [if_pos hp] at hQ
    refine wp_sound (by rw [hi]; exact ok_X8_feed) (hd := [20, 25, 30, 36, 42]) 400 _ _ _ _ _ _ ?_
    simp only [wp, stp, List.mem_cons, List.not_mem_nil, Nat.reduceEqDiff, or_false, or_self, false_or, or_true, true_or, Nat.reduceAdd, ↓reduceIte, List.getElem?_cons_zero, List.getElem?_cons_succ, nthV, List.set_cons_zero, List.set_cons_succ, noL, popA, catS, Value.category, List.length_cons, List.length_nil, Nat.reduceLT, Nat.reduceLeDiff, true_and, and_true, one0, zer1, imp_t, imp_f, ofN_nI, sdead, f20, f21, not_true_eq_false, upC_ap, upC_upC, retC, fitC, isRefT, Option.toList_some, Option.toList_none, List.cons_append, List.nil_append, Nat.lt_add_one, Nat.zero_lt_succ, Nat.le_refl, Nat.add_zero, Nat.zero_add, Nat.one_ne_zero, Nat.zero_ne_one, Nat.lt_irrefl, List.length_set, fa_X8_feed, hi, hd, hQ, mr_X8_feed, a0, hk]
    refine ⟨fun _ => ⟨hd1, _, t8_tapeNumber hG h (by omega) a, ?_⟩, fun q => absurd hp (by omega)⟩
    rintro v n1 z1 f1 ⟨rfl, h1, r1⟩
    have a1 := h1.o
    refine wp_sound (by rw [hi]; exact ok_X8_feed) (hd := [20, 25, 30, 36, 42]) 400 _ _ _ _ _ _ ?_
    simp only [wp, stp, List.mem_cons, List.not_mem_nil, Nat.reduceEqDiff, or_false, or_self, false_or, or_true, true_or, Nat.reduceAdd, ↓reduceIte, List.getElem?_cons_zero, List.getElem?_cons_succ, nthV, List.set_cons_zero, List.set_cons_succ, noL, popA, catS, Value.category, List.length_cons, List.length_nil, Nat.reduceLT, Nat.reduceLeDiff, true_and, and_true, one0, zer1, imp_t, imp_f, ofN_nI, sdead, f20, f21, not_true_eq_false, upC_ap, upC_upC, retC, fitC, isRefT, Option.toList_some, Option.toList_none, List.cons_append, List.nil_append, Nat.lt_add_one, Nat.zero_lt_succ, Nat.le_refl, Nat.add_zero, Nat.zero_add, Nat.one_ne_zero, Nat.zero_ne_one, Nat.lt_irrefl, List.length_set, fa_X8_feed, hi, hd, hQ, mr_X8_feed, a1]
    refine ⟨hd1, _, t8_tapeNumber hG h1 (by omega) b, ?_⟩
    rintro v n2 z2 f2 ⟨rfl, h2, r2⟩
    have a2 := h2.o
    refine wp_sound (by rw [hi]; exact ok_X8_feed) (hd := [20, 25, 30, 36, 42]) 400 _ _ _ _ _ _ ?_
    simp only [wp, stp, List.mem_cons, List.not_mem_nil, Nat.reduceEqDiff, or_false, or_self, false_or, or_true, true_or, Nat.reduceAdd, ↓reduceIte, List.getElem?_cons_zero, List.getElem?_cons_succ, nthV, List.set_cons_zero, List.set_cons_succ, noL, popA, catS, Value.category, List.length_cons, List.length_nil, Nat.reduceLT, Nat.reduceLeDiff, true_and, and_true, one0, zer1, imp_t, imp_f, ofN_nI, sdead, f20, f21, not_true_eq_false, upC_ap, upC_upC, retC, fitC, isRefT, Option.toList_some, Option.toList_none, List.cons_append, List.nil_append, Nat.lt_add_one, Nat.zero_lt_succ, Nat.le_refl, Nat.add_zero, Nat.zero_add, Nat.one_ne_zero, Nat.zero_ne_one, Nat.lt_irrefl, List.length_set, fa_X8_feed, hi, hd, hQ, mr_X8_feed, a2]
    refine ⟨hd1, _, t8_tapeNumber hG h2 (by omega) c, ?_⟩
    rintro v n3 z3 f3 ⟨rfl, h3, r3⟩
    have a3 := h3.o
    refine wp_sound (by rw [hi]; exact ok_X8_feed) (hd := [20, 25, 30, 36, 42]) 400 _ _ _ _ _ _ ?_
    simp only [wp, stp, List.mem_cons, List.not_mem_nil, Nat.reduceEqDiff, or_false, or_self, false_or, or_true, true_or, Nat.reduceAdd, ↓reduceIte, List.getElem?_cons_zero, List.getElem?_cons_succ, nthV, List.set_cons_zero, List.set_cons_succ, noL, popA, catS, Value.category, List.length_cons, List.length_nil, Nat.reduceLT, Nat.reduceLeDiff, true_and, and_true, one0, zer1, imp_t, imp_f, ofN_nI, sdead, f20, f21, not_true_eq_false, upC_ap, upC_upC, retC, fitC, isRefT, Option.toList_some, Option.toList_none, List.cons_append, List.nil_append, Nat.lt_add_one, Nat.zero_lt_succ, Nat.le_refl, Nat.add_zero, Nat.zero_add, Nat.one_ne_zero, Nat.zero_ne_one, Nat.lt_irrefl, List.length_set, fa_X8_feed, hi, hd, hQ, mr_X8_feed, a3]
    refine ⟨hd1, _, t8_tapeNumber hG h3 (by omega) e, ?_⟩
    rintro v n4 z4 f4 ⟨rfl, h4, r4⟩
    have a4 := h4.o
    refine wp_sound (by rw [hi]; exact ok_X8_feed) (hd := [20, 25, 30, 36, 42]) 400 _ _ _ _ _ _ ?_
    simp only [wp, stp, List.mem_cons, List.not_mem_nil, Nat.reduceEqDiff, or_false, or_self, false_or, or_true, true_or, Nat.reduceAdd, ↓reduceIte, List.getElem?_cons_zero, List.getElem?_cons_succ, nthV, List.set_cons_zero, List.set_cons_succ, noL, popA, catS, Value.category, List.length_cons, List.length_nil, Nat.reduceLT, Nat.reduceLeDiff, true_and, and_true, one0, zer1, imp_t, imp_f, ofN_nI, sdead, f20, f21, not_true_eq_false, upC_ap, upC_upC, retC, fitC, isRefT, Option.toList_some, Option.toList_none, List.cons_append, List.nil_append, Nat.lt_add_one, Nat.zero_lt_succ, Nat.le_refl, Nat.add_zero, Nat.zero_add, Nat.one_ne_zero, Nat.zero_ne_one, Nat.lt_irrefl, List.length_set, fa_X8_feed, hi, hd, hQ, mr_X8_feed, a4]
    refine ⟨hd1, _, t8_tapeNumber hG h4 (by omega) g, ?_⟩
    rintro v n5 z5 f5 ⟨rfl, h5, r5⟩
    have a5 := h5.o
    refine wp_sound (by rw [hi]; exact ok_X8_feed) (hd := [20, 25, 30, 36, 42]) 400 _ _ _ _ _ _ ?_
    simp only [wp, stp, List.mem_cons, List.not_mem_nil, Nat.reduceEqDiff, or_false, or_self, false_or, or_true, true_or, Nat.reduceAdd, ↓reduceIte, List.getElem?_cons_zero, List.getElem?_cons_succ, nthV, List.set_cons_zero, List.set_cons_succ, noL, popA, catS, Value.category, List.length_cons, List.length_nil, Nat.reduceLT, Nat.reduceLeDiff, true_and, and_true, one0, zer1, imp_t, imp_f, ofN_nI, sdead, f20, f21, not_true_eq_false, upC_ap, upC_upC, retC, fitC, isRefT, Option.toList_some, Option.toList_none, List.cons_append, List.nil_append, Nat.lt_add_one, Nat.zero_lt_succ, Nat.le_refl, Nat.add_zero, Nat.zero_add, Nat.one_ne_zero, Nat.zero_ne_one, Nat.lt_irrefl, List.length_set, fa_X8_feed, hi, hd, hQ, mr_X8_feed, a5]
    exact ⟨rfl, h5, (((r1.trans r2).trans r3).trans r4).trans r5⟩
  · simp only [if_neg hp] at hQ
    refine wp_sound (by rw [hi]; exact ok_X8_feed) (hd := [20, 25, 30, 36, 42]) 400 _ _ _ _ _ _ ?_
    simp only [wp, stp, List.mem_cons, List.not_mem_nil, Nat.reduceEqDiff, or_false, or_self, false_or, or_true, true_or, Nat.reduceAdd, ↓reduceIte, List.getElem?_cons_zero, List.getElem?_cons_succ, nthV, List.set_cons_zero, List.set_cons_succ, noL, popA, catS, Value.category, List.length_cons, List.length_nil, Nat.reduceLT, Nat.reduceLeDiff, true_and, and_true, one0, zer1, imp_t, imp_f, ofN_nI, sdead, f20, f21, not_true_eq_false, upC_ap, upC_upC, retC, fitC, isRefT, Option.toList_some, Option.toList_none, List.cons_append, List.nil_append, Nat.lt_add_one, Nat.zero_lt_succ, Nat.le_refl, Nat.add_zero, Nat.zero_add, Nat.one_ne_zero, Nat.zero_ne_one, Nat.lt_irrefl, List.length_set, fa_X8_feed, hi, hd, hQ, mr_X8_feed, a0, hk]
    exact ⟨fun q => absurd q (by omega), fun _ => ⟨rfl, h, RFX.refl f⟩⟩
end X8l
