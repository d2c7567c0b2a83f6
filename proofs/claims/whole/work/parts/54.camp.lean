-- Camp: writes
set_option maxRecDepth 100000
set_option maxHeartbeats 4000000
/-- a camp at place q, its rows behind it -/
def CRq (S : Sta) (lp q : Nat) (f : Mf) : Prop :=
  f q = cO 0 [.int (S 0 0), .int (S 0 1), .int (S 0 2), .ref (q + 1), .int (S 0 3), .ref (q + 2), .ref (q + 3), .ref (q + 4), .ref (q + 5), .ref (q + 6), .ref (q + 7), .int (S 0 4), .ref (q + 8), .int (S 0 5), .int (S 0 6), .int (S 0 7), .int (S 0 8), .int (S 0 9), .ref lp] ∧
  ∃ kd ya fa mo co mv tp my : Nat → Int32, f (q + 1) = cI 100 kd ∧ (∀ i, i < 100 → kd i = S 1 i) ∧ f (q + 2) = cI 10 ya ∧ (∀ t, t < tn S → ya t = S 2 t) ∧ f (q + 3) = cI 10 fa ∧ (∀ t, t < tn S → fa t = S 3 t) ∧ f (q + 4) = cI 10 mo ∧ (∀ t, t < tn S → mo t = S 4 t) ∧ f (q + 5) = cI 10 co ∧ (∀ t, t < tn S → co t = S 5 t) ∧ f (q + 6) = cI 10 mv ∧ (∀ t, t < tn S → mv t = S 6 t) ∧ f (q + 7) = cI 10 tp ∧ (∀ t, t < tn S → tp t = S 7 t) ∧ f (q + 8) = cI 6 my ∧ (∀ t, t < mn S → my t = S 8 t)
theorem CR.q {S : Sta} {lp : Nat} {f : Mf} (h : CR S lp f) : CRq S lp 1 f := h
theorem CRq.cr {S : Sta} {lp : Nat} {f : Mf} (h : CRq S lp 1 f) : CR S lp f := h
theorem CRq.cong {S : Sta} {lp q : Nat} {f f' : Mf} (h : CRq S lp q f) (hf : ∀ x, q ≤ x → x ≤ q + 8 → f' x = f x) : CRq S lp q f' := by
  unfold CRq at *
  rw [hf q (by omega) (by omega), hf (q + 1) (by omega) (by omega), hf (q + 2) (by omega) (by omega), hf (q + 3) (by omega) (by omega), hf (q + 4) (by omega) (by omega), hf (q + 5) (by omega) (by omega), hf (q + 6) (by omega) (by omega), hf (q + 7) (by omega) (by omega), hf (q + 8) (by omega) (by omega)]
  exact h
/-- a new tent -/
def pitS (S : Sta) (y fm md : Int32) : Sta := fun a b =>
  if a = 0 then (if b = 3 then S 0 3 + 1 else S 0 b) else if b = tn S then (if a = 2 then y else if a = 3 then fm else if a = 4 then md else if a = 5 then 0 else if a = 6 then 0 else if a = 7 then -1 else S a b) else S a b
/-- a new plain -/
def clrS (S : Sta) (w h : Int32) : Sta := fun a b => if a = 0 then (if b = 0 then w else if b = 1 then h else if b = 2 then S 0 2 else if b = 5 then -1 else 0) else 0
def L0 : Lw := (0, 0, fun _ => 0)
/-- the camp tells S, the ways are S0's -/
def CW2 (S0 S : Sta) (L : Lw) (lp N Z K : Nat) (f : Mf) (n z : Nat) : Prop :=
  CR S lp f ∧ OC f ∧ (49 ≤ n ∧ N ≤ CAP ∧ Z ≤ SCAP) ∧ LawA f n lp L ∧ KE 20 12 f ∧ KE 22 16 f ∧ ∃ g1 g2, WyR S0 1 12 f n g1 K ∧ WyR S0 0 16 f n g2 K ∧ (∀ i j p, i < 100 → j < 100 → g1 i = some p → g2 j ≠ some p) ∧ n + nulG g1 + nulG g2 = N ∧ z + 100 * (nulG g1 + nulG g2) = Z
theorem CW2.of {S S' : Sta} {L : Lw} {lp N Z K n z : Nat} {f f' : Mf} (h : CW S L lp N Z K f n z) (hC : CR S' lp f') (hf : ∀ x, x = 0 ∨ 10 ≤ x → f' x = f x) : CW2 S S' L lp N Z K f' n z := by
  obtain ⟨c1, c2, c3, c4, k1, k2, g1, g2, w1, w2, w3, w4, w5⟩ := h
  refine ⟨hC, c2.cong (fun x hx => hf x (by omega)), c3, c4.frm (A := [1, 2, 3, 4, 5, 6, 7, 8, 9]) ⟨fun x a b => hf x (by simp at b; omega), fun x a _ _ => hf x (by omega), fun x a => hf x (by omega)⟩ (by decide) (Nat.le_refl _), k1.cong (hf _ (by omega)) (hf _ (by omega)), k2.cong (hf _ (by omega)) (hf _ (by omega)), g1, g2, ?_, ?_, w3, w4, w5⟩
  · exact w1.cong (Nat.le_refl _) (hf _ (by omega)) (hf _ (by omega)) (hf _ (by omega)) (hf _ (by omega)) (fun i p hi hp => hf p (by have := (w1.row hi hp).2.1; omega))
  · exact w2.cong (Nat.le_refl _) (hf _ (by omega)) (hf _ (by omega)) (hf _ (by omega)) (hf _ (by omega)) (fun i p hi hp => hf p (by have := (w2.row hi hp).2.1; omega))
/-- some cells more, another law -/
theorem CW2.more {S0 S : Sta} {L L' : Lw} {lp lp' N Z K n n' z z' : Nat} {f f' : Mf} (h : CW2 S0 S L lp N Z K f n z) (hn : n ≤ n') (hz : z ≤ z') (hN : N + (n' - n) ≤ CAP) (hZ : Z + (z' - z) ≤ SCAP) (hf : ∀ x, (x < n ∧ (x = 0 ∨ 10 ≤ x)) ∨ 1000000 ≤ x → f' x = f x) {S' : Sta} (hC : CR S' lp' f') (hL : LawA f' n' lp' L') : CW2 S0 S' L' lp' (N + (n' - n)) (Z + (z' - z)) K f' n' z' := by
  obtain ⟨c1, c2, c3, c4, k1, k2, g1, g2, w1, w2, w3, w4, w5⟩ := h
  refine ⟨hC, c2.cong (fun x hx => hf x (by omega)), ⟨by omega, hN, hZ⟩, hL, k1.cong (hf _ (by omega)) (hf _ (by omega)), k2.cong (hf _ (by omega)) (hf _ (by omega)), g1, g2, ?_, ?_, w3, by omega, by omega⟩
  · exact w1.cong hn (hf _ (by omega)) (hf _ (by omega)) (hf _ (by omega)) (hf _ (by omega)) (fun i p hi hp => hf p (by have := (w1.row hi hp).2; omega))
  · exact w2.cong hn (hf _ (by omega)) (hf _ (by omega)) (hf _ (by omega)) (hf _ (by omega)) (fun i p hi hp => hf p (by have := (w2.row hi hp).2; omega))
theorem CW2.cw {S : Sta} {L : Lw} {lp N Z K n z : Nat} {f : Mf} (h : CW2 S S L lp N Z K f n z) : CW S L lp N Z K f n z := h
theorem lawA_0 {f : Mf} {n lp : Nat} (h1 : (lp = 10 ∨ 49 ≤ lp) ∧ lp + 1 < n) {st : Nat → Int32} (h2 : f lp = cO 3 [.int 0, .int 0, .ref (lp + 1)]) (h3 : f (lp + 1) = cI 0 st) : LawA f n lp L0 :=
  ⟨lp + 1, 0, st, fun _ => 0, fun _ => 0, ⟨h1.1, by omega⟩, ⟨by omega, by omega⟩, h2, h3, ⟨by omega, fun i hi => absurd hi (Nat.not_lt_zero i)⟩, fun _ _ _ => rfl⟩
theorem new0_3 : new0 3 = [.int 0, .int 0, .null] := rfl
theorem clK_3 : clK 3 = 3 := rfl
section CampW
variable {G : Gam} {d n z lp : Nat} {f : Mf} {S : Sta}
theorem t_lawInit (hG : Ok G) (hd1 : 1 ≤ d) {p q : Nat} (hp : p < 1000000) {a b c : Value} (h : f p = cO 3 [a, b, c]) {m : Nat} {st : Nat → Int32} (hq : f q = cI m st) {l e : Int32} (he : e = 0 ∨ e = 1) : Tr G d 45 [.ref p, .ref q, .int l, .int e] n z f (fun v n' z' f' => v = none ∧ n' = n ∧ z' = z ∧ f' = upC f p (cO 3 [.int l, .int e, .ref q])) := by
  refine Tr.of2 (ls0 := [.ref p, .ref q, .int l, .int e]) hG mo_X3_init (Nat.le_of_ble_eq_true rfl) rfl ?_
  intro X hi hd hXn hXz hXf hQ
  refine wp_sound (by rw [hi]; exact ok_X3_init) (hd := []) 400 _ _ _ _ _ _ ?_
  simp (disch := omega) only [wp, stp, List.mem_cons, List.not_mem_nil, Nat.reduceEqDiff, or_false, or_self, false_or, or_true, true_or, Nat.reduceAdd, ↓reduceIte, List.getElem?_cons_zero, List.getElem?_cons_succ, nthV, List.set_cons_zero, List.set_cons_succ, noL, popA, catS, Value.category, List.length_cons, List.length_nil, Nat.reduceLT, Nat.reduceLeDiff, true_and, and_true, one0, zer1, imp_t, imp_f, ofN_nI, sdead, f20, f21, not_true_eq_false, upC_self, upC_ne, upC_upC, retC, fitC, isRefT, Option.toList_some, Option.toList_none, List.cons_append, List.nil_append, Nat.lt_add_one, Nat.zero_lt_succ, Nat.le_refl, Nat.add_zero, Nat.zero_add, Nat.one_ne_zero, Nat.zero_ne_one, Nat.lt_irrefl, List.length_set, fa_X3_init, hi, hd, hQ, mr_X3_init, h, hq, hp]
  exact ⟨hd1, he⟩
theorem t_pitch (hG : Ok G) (hB : Bd S) (ht : tn S < 10) (hC : CR S lp f) (y fm md : Int32) : Tr G d 23 [.ref 1, .int y, .int fm, .int md] n z f (fun v n' z' f' => v = some (.int (nI (tn S))) ∧ n' = n ∧ z' = z ∧ CR (pitS S y fm md) lp f' ∧ ∀ x, ¬ (x = 1 ∨ 3 ≤ x ∧ x ≤ 8) → f' x = f x) := by
  obtain ⟨⟨b1, b2⟩, -⟩ := id hB
  obtain ⟨h1, kd, ya, fa, mo, co, mv, tp, my, h2, h2', h3, h3', h4, h4', h5, h5', h6, h6', h7, h7', h8, h8', h9, h9'⟩ := hC
  rw [b1] at h1
  have hct : (nI (tn S)).toNatClampNeg = tn S := nI_clamp (by omega)
  have hit : vp_in (nI (tn S)) 10 := (vin_nI (by omega)).mpr ht
  have et : tn (pitS S y fm md) = tn S + 1 := by
    show (if 0 = 0 then (if 3 = 3 then S 0 3 + 1 else S 0 3) else _).toNatClampNeg = _
    rw [if_pos rfl, if_pos rfl, b1, nI_1, nI_clamp (by omega)]
  have em : mn (pitS S y fm md) = mn S := rfl
  have er : ∀ a t, ¬ a = 0 → ¬ t = tn S → pitS S y fm md a t = S a t := fun a t ha hb => by unfold pitS; rw [if_neg ha, if_neg hb]
  have es : ∀ a, ¬ a = 0 → pitS S y fm md a (tn S) = if a = 2 then y else if a = 3 then fm else if a = 4 then md else if a = 5 then 0 else if a = 6 then 0 else if a = 7 then -1 else S a (tn S) := fun a ha => by unfold pitS; rw [if_neg ha, if_pos rfl]
  refine Tr.of2 (ls0 := [.ref 1, .int y, .int fm, .int md, dead]) hG mo_X0_pitch (Nat.le_of_ble_eq_true rfl) rfl ?_
  intro X hi hd hXn hXz hXf hQ
  refine wp_sound (by rw [hi]; exact ok_X0_pitch) (hd := []) 400 _ _ _ _ _ _ ?_
  simp only [wp, stp, List.mem_cons, List.not_mem_nil, Nat.reduceEqDiff, or_false, or_self, false_or, or_true, true_or, Nat.reduceAdd, ↓reduceIte, List.getElem?_cons_zero, List.getElem?_cons_succ, nthV, List.set_cons_zero, List.set_cons_succ, noL, popA, catS, Value.category, List.length_cons, List.length_nil, Nat.reduceLT, Nat.reduceLeDiff, true_and, and_true, one0, zer1, imp_t, imp_f, ofN_nI, sdead, f20, f21, not_true_eq_false, upC_ap, upC_upC, retC, fitC, isRefT, Option.toList_some, Option.toList_none, List.cons_append, List.nil_append, Nat.lt_add_one, Nat.zero_lt_succ, Nat.le_refl, Nat.add_zero, Nat.zero_add, Nat.one_ne_zero, Nat.zero_ne_one, Nat.lt_irrefl, List.length_set, fa_X0_pitch, hi, hd, hQ, mr_X0_pitch, h1, h3, h4, h5, h6, h7, h8, hct]
  refine ⟨hit, hit, hit, hit, hit, hit, ⟨?_, kd, upd ya (tn S) y, upd fa (tn S) fm, upd mo (tn S) md, upd co (tn S) 0, upd mv (tn S) 0, upd tp (tn S) (-1), my, ?_⟩, fun x hx => ?_⟩
  · rw [upC_self, show pitS S y fm md 0 3 = nI (tn S) + 1 by rw [← b1]; rfl]; rfl
  · rw [et, em]
    have low : ∀ (g g' : Nat → Int32) (a : Nat) (v : Int32), ¬ a = 0 → (∀ t, t < tn S → g t = S a t) → pitS S y fm md a (tn S) = v → ∀ t, t < tn S + 1 → upd g (tn S) v t = pitS S y fm md a t := fun g g' a v ha hg hv t ht' => by
      rw [upd_ap]
      by_cases q : t = tn S
      · rw [if_pos q, q, hv]
      · rw [if_neg q, er a t ha q]; exact hg t (by omega)
    refine ⟨?_, fun i hi => ?_, ?_, low ya ya 2 y (by omega) h3' (es 2 (by omega)), ?_, low fa fa 3 fm (by omega) h4' (es 3 (by omega)), ?_, low mo mo 4 md (by omega) h5' (es 4 (by omega)), ?_, low co co 5 0 (by omega) h6' (es 5 (by omega)), ?_, low mv mv 6 0 (by omega) h7' (es 6 (by omega)), ?_, low tp tp 7 (-1) (by omega) h8' (es 7 (by omega)), ?_, fun i hi => ?_⟩
    · simp only [upC_ap]; exact h2
    · rw [h2' i hi]
      by_cases q : i = tn S
      · rw [q, es 1 (by omega)]; rfl
      · rw [er 1 i (by omega) q]
    · simp only [upC_ap]; rfl
    · simp only [upC_ap]; rfl
    · simp only [upC_ap]; rfl
    · simp only [upC_ap]; rfl
    · simp only [upC_ap]; rfl
    · simp only [upC_ap]; rfl
    · simp only [upC_ap]; exact h9
    · rw [h9' i hi]
      by_cases q : i = tn S
      · rw [q, es 8 (by omega)]; rfl
      · rw [er 8 i (by omega) q]
  · simp only [not_or, not_and] at hx
    rw [if_neg hx.1]
    iterate 6 rw [if_neg (by omega)]
theorem t_clear (hG : Ok G) (hd1 : 2 ≤ d) (hn : 49 ≤ n ∧ n + 2 ≤ CAP) (hz : z + 3 ≤ SCAP) (hC : CR S lp f) (w h : Int32) : Tr G d 11 [.ref 1, .int w, .int h] n z f (fun v n' z' f' => v = none ∧ n' = n + 2 ∧ z' = z + 3 ∧ CR (clrS S w h) n f' ∧ f' n = cO 3 [.int 0, .int 0, .ref (n + 1)] ∧ (∃ st, f' (n + 1) = cI 0 st) ∧ ∀ x, ¬ (x = 1 ∨ x = 2 ∨ x = n ∨ x = n + 1) → f' x = f x) := by
  obtain ⟨h1, kd, ya, fa, mo, co, mv, tp, my, h2, h2', h3, h3', h4, h4', h5, h5', h6, h6', h7, h7', h8, h8', h9, h9'⟩ := hC
  have hCAP : CAP = 600000 := rfl
  have et : tn (clrS S w h) = 0 := rfl
  have em : mn (clrS S w h) = 0 := rfl
  refine Tr.of2 (ls0 := [.ref 1, .int w, .int h]) hG mo_X0_clear (Nat.le_of_ble_eq_true rfl) rfl ?_
  intro X hi hd hXn hXz hXf hQ
  refine wp_sound (by rw [hi]; exact ok_X0_clear) (hd := [18, 66]) 400 _ _ _ _ _ _ ?_
  simp only [wp, stp, List.mem_cons, List.not_mem_nil, Nat.reduceEqDiff, or_false, or_self, false_or, or_true, true_or, Nat.reduceAdd, ↓reduceIte, List.getElem?_cons_zero, List.getElem?_cons_succ, nthV, List.set_cons_zero, List.set_cons_succ, noL, popA, catS, Value.category, List.length_cons, List.length_nil, Nat.reduceLT, Nat.reduceLeDiff, true_and, and_true, one0, zer1, imp_t, imp_f, ofN_nI, sdead, f20, f21, not_true_eq_false, upC_ap, upC_upC, retC, fitC, isRefT, Option.toList_some, Option.toList_none, List.cons_append, List.nil_append, Nat.lt_add_one, Nat.zero_lt_succ, Nat.le_refl, Nat.add_zero, Nat.zero_add, Nat.one_ne_zero, Nat.zero_ne_one, Nat.lt_irrefl, List.length_set, fa_X0_clear, hi, hd, hQ, mr_X0_clear, h1]
  refine ⟨by omega, _, t_fillI hG (r := 2) (N := 100) (g := kd) (by omega) (by rw [upC_ne _ _ (by omega)]; exact h2) (by omega) 0, ?_⟩
  rintro v n1 z1 f1 ⟨rfl, rfl, rfl, kd', rfl, hkd⟩
  have e1 : ¬ n1 = 1 := by omega
  have e2 : ¬ 1 = n1 := by omega
  have e3 : ¬ 1 = n1 + 1 := by omega
  have e4 : ¬ n1 + 1 = 1 := by omega
  have c0 : (0 : Int32).toNatClampNeg = 0 := rfl
  have c00 : ¬ (0 : Int32) < 0 := by decide
  refine wp_sound (by rw [hi]; exact ok_X0_clear) (hd := [18, 66]) 400 _ _ _ _ _ _ ?_
  simp (disch := omega) only [wp, stp, List.mem_cons, List.not_mem_nil, Nat.reduceEqDiff, or_false, or_self, false_or, or_true, true_or, Nat.reduceAdd, ↓reduceIte, List.getElem?_cons_zero, List.getElem?_cons_succ, nthV, List.set_cons_zero, List.set_cons_succ, noL, popA, catS, Value.category, List.length_cons, List.length_nil, Nat.reduceLT, Nat.reduceLeDiff, true_and, and_true, one0, zer1, imp_t, imp_f, ofN_nI, sdead, f20, f21, not_true_eq_false, upC_self, upC_ne, upC_upC, retC, fitC, isRefT, Option.toList_some, Option.toList_none, List.cons_append, List.nil_append, Nat.lt_add_one, Nat.zero_lt_succ, Nat.le_refl, Nat.add_zero, Nat.zero_add, Nat.one_ne_zero, Nat.zero_ne_one, Nat.lt_irrefl, List.length_set, fa_X0_clear, hi, hd, hQ, mr_X0_clear, h1, new0_3, clK_3, c0, c00]
  refine ⟨by omega, by omega, id, by omega, by omega, by omega, _, t_lawInit hG (by omega) (p := n1) (q := n1 + 1) (by omega) (by rw [upC_ne _ _ (by omega), upC_self]) (upC_self _ _ _) (Or.inl rfl), ?_⟩
  rintro v n2 z2 f2 ⟨rfl, rfl, rfl, rfl⟩
  refine wp_sound (by rw [hi]; exact ok_X0_clear) (hd := [18, 66]) 400 _ _ _ _ _ _ ?_
  simp (disch := omega) only [wp, stp, List.mem_cons, List.not_mem_nil, Nat.reduceEqDiff, or_false, or_self, false_or, or_true, true_or, Nat.reduceAdd, ↓reduceIte, List.getElem?_cons_zero, List.getElem?_cons_succ, nthV, List.set_cons_zero, List.set_cons_succ, noL, popA, catS, Value.category, List.length_cons, List.length_nil, Nat.reduceLT, Nat.reduceLeDiff, true_and, and_true, one0, zer1, imp_t, imp_f, ofN_nI, sdead, f20, f21, not_true_eq_false, upC_self, upC_ne, upC_upC, retC, fitC, isRefT, Option.toList_some, Option.toList_none, List.cons_append, List.nil_append, Nat.lt_add_one, Nat.zero_lt_succ, Nat.le_refl, Nat.add_zero, Nat.zero_add, Nat.one_ne_zero, Nat.zero_ne_one, Nat.lt_irrefl, List.length_set, fa_X0_clear, hi, hd, hQ, mr_X0_clear, h1]
  have low : ∀ c1 c2 c3 c4 c5 c6 c7, ∀ x, ¬ x = 1 → ¬ x = 2 → ¬ x = n1 → ¬ x = n1 + 1 → upC (upC (upC (upC (upC (upC (upC f 1 c1) 2 c2) 1 c3) n1 c4) (n1 + 1) c5) n1 c6) 1 c7 x = f x := fun c1 c2 c3 c4 c5 c6 c7 x a b c d => by
    rw [upC_ne _ _ a, upC_ne _ _ c, upC_ne _ _ d, upC_ne _ _ c, upC_ne _ _ a, upC_ne _ _ b, upC_ne _ _ a]
  refine ⟨⟨?_, kd', ya, fa, mo, co, mv, tp, my, ?_⟩, ⟨fun _ => 0, ?_⟩, fun x hx => ?_⟩
  · rw [upC_self]; rfl
  · rw [et, em]
    refine ⟨?_, fun i hi => hkd i hi, (low _ _ _ _ _ _ _ _ (by omega) (by omega) (by omega) (by omega)).trans h3, fun t ht => absurd ht (Nat.not_lt_zero t), (low _ _ _ _ _ _ _ _ (by omega) (by omega) (by omega) (by omega)).trans h4, fun t ht => absurd ht (Nat.not_lt_zero t), (low _ _ _ _ _ _ _ _ (by omega) (by omega) (by omega) (by omega)).trans h5, fun t ht => absurd ht (Nat.not_lt_zero t), (low _ _ _ _ _ _ _ _ (by omega) (by omega) (by omega) (by omega)).trans h6, fun t ht => absurd ht (Nat.not_lt_zero t), (low _ _ _ _ _ _ _ _ (by omega) (by omega) (by omega) (by omega)).trans h7, fun t ht => absurd ht (Nat.not_lt_zero t), (low _ _ _ _ _ _ _ _ (by omega) (by omega) (by omega) (by omega)).trans h8, fun t ht => absurd ht (Nat.not_lt_zero t), (low _ _ _ _ _ _ _ _ (by omega) (by omega) (by omega) (by omega)).trans h9, fun t ht => absurd ht (Nat.not_lt_zero t)⟩
    rw [upC_ne _ _ (by omega), upC_ne _ _ (by omega), upC_ne _ _ (by omega), upC_ne _ _ (by omega), upC_ne _ _ (by omega), upC_self]
  · rfl
  · exact low _ _ _ _ _ _ _ x (by omega) (by omega) (by omega) (by omega)
def S0s : Sta := fun a b => if a = 0 then (if b = 0 then 6 else if b = 1 then 6 else if b = 5 then -1 else 0) else 0
theorem t_campInit (hG : Ok G) (hd1 : 2 ≤ d) {p : Nat} (hn : p + 11 ≤ CAP) (hz : z + 169 ≤ SCAP) (h : f p = cO 0 (new0 0)) : Tr G d 10 [.ref p] (p + 1) z f (fun v n' z' f' => v = none ∧ n' = p + 11 ∧ z' = z + 169 ∧ CRq S0s (p + 9) p f' ∧ f' (p + 9) = cO 3 [.int 0, .int 0, .ref (p + 10)] ∧ (∃ st, f' (p + 10) = cI 0 st) ∧ ∀ x, ¬ (p ≤ x ∧ x ≤ p + 10) → f' x = f x) := by
  have hCAP : CAP = 600000 := rfl
  have hSCAP : SCAP = 7302249 := rfl
  have hp : p < 1000000 := by omega
  have c0 : (0 : Int32).toNatClampNeg = 0 := rfl
  have c00 : ((0 : Int32) < 0) = False := eq_false (by decide)
  have c10 : (10 : Int32).toNatClampNeg = 10 := rfl
  have c6 : (6 : Int32).toNatClampNeg = 6 := rfl
  have c10n : ((10 : Int32) < 0) = False := eq_false (by decide)
  have c6n : ((6 : Int32) < 0) = False := eq_false (by decide)
  rw [new0_0] at h
  refine Tr.of2 (ls0 := [.ref p]) hG mo_X0_init (Nat.le_of_ble_eq_true rfl) rfl ?_
  intro X hi hd hXn hXz hXf hQ
  refine wp_sound (by rw [hi]; exact ok_X0_init) (hd := [98]) 400 _ _ _ _ _ _ ?_
  simp (disch := omega) only [wp, stp, List.mem_cons, List.not_mem_nil, Nat.reduceEqDiff, or_false, or_self, false_or, or_true, true_or, Nat.reduceAdd, ↓reduceIte, List.getElem?_cons_zero, List.getElem?_cons_succ, nthV, List.set_cons_zero, List.set_cons_succ, noL, popA, catS, Value.category, List.length_cons, List.length_nil, Nat.reduceLT, Nat.reduceLeDiff, true_and, and_true, one0, zer1, imp_t, imp_f, ofN_nI, sdead, f20, f21, not_true_eq_false, upC_self, upC_ne, upC_upC, retC, fitC, isRefT, Option.toList_some, Option.toList_none, List.cons_append, List.nil_append, Nat.lt_add_one, Nat.zero_lt_succ, Nat.le_refl, Nat.add_zero, Nat.zero_add, Nat.one_ne_zero, Nat.zero_ne_one, Nat.lt_irrefl, List.length_set, fa_X0_init, hi, hd, hQ, mr_X0_init, h, new0_3, clK_3, c0, c00, c10, c6, c10n, c6n, c100, c100n, hp, Nat.add_assoc, not_false_eq_true]
  refine ⟨by omega, by omega, by omega, by omega, by omega, by omega, by omega, by omega, by omega, by omega, by omega, by omega, by omega, by omega, by omega, by omega, by omega, by omega, by omega, by omega, by omega, by omega, _, t_lawInit hG (by omega) (p := p + 9) (q := p + 10) (by omega) (by simp (disch := omega) only [upC_self, upC_ne]; rfl) (upC_self _ _ _) (Or.inl rfl), ?_⟩
  rintro v n2 z2 f2 ⟨rfl, rfl, rfl, rfl⟩
  refine wp_sound (by rw [hi]; exact ok_X0_init) (hd := [98]) 400 _ _ _ _ _ _ ?_
  simp (disch := omega) only [wp, stp, List.mem_cons, List.not_mem_nil, Nat.reduceEqDiff, or_false, or_self, false_or, or_true, true_or, Nat.reduceAdd, ↓reduceIte, List.getElem?_cons_zero, List.getElem?_cons_succ, nthV, List.set_cons_zero, List.set_cons_succ, noL, popA, catS, Value.category, List.length_cons, List.length_nil, Nat.reduceLT, Nat.reduceLeDiff, true_and, and_true, one0, zer1, imp_t, imp_f, ofN_nI, sdead, f20, f21, not_true_eq_false, upC_self, upC_ne, upC_upC, retC, fitC, isRefT, Option.toList_some, Option.toList_none, List.cons_append, List.nil_append, Nat.lt_add_one, Nat.zero_lt_succ, Nat.le_refl, Nat.add_zero, Nat.zero_add, Nat.one_ne_zero, Nat.zero_ne_one, Nat.lt_irrefl, List.length_set, fa_X0_init, hi, hd, hQ, mr_X0_init, h, hp]
  refine ⟨⟨?_, fun _ => 0, fun _ => 0, fun _ => 0, fun _ => 0, fun _ => 0, fun _ => 0, fun _ => 0, fun _ => 0, ?_⟩, ⟨fun _ => 0, ?_⟩, fun x hx => ?_⟩
  · rw [upC_self]; rfl
  · refine ⟨by simp (disch := omega) only [upC_self, upC_ne], fun _ _ => rfl, by simp (disch := omega) only [upC_self, upC_ne], fun t ht => absurd ht (Nat.not_lt_zero t), by simp (disch := omega) only [upC_self, upC_ne], fun t ht => absurd ht (Nat.not_lt_zero t), by simp (disch := omega) only [upC_self, upC_ne], fun t ht => absurd ht (Nat.not_lt_zero t), by simp (disch := omega) only [upC_self, upC_ne], fun t ht => absurd ht (Nat.not_lt_zero t), by simp (disch := omega) only [upC_self, upC_ne], fun t ht => absurd ht (Nat.not_lt_zero t), by simp (disch := omega) only [upC_self, upC_ne], fun t ht => absurd ht (Nat.not_lt_zero t), by simp (disch := omega) only [upC_self, upC_ne], fun t ht => absurd ht (Nat.not_lt_zero t)⟩
  · first | rfl | simp (disch := omega) only [upC_self, upC_ne]
  · simp (disch := omega) only [upC_ne]
theorem t_copy (hG : Ok G) (hd1 : 1 ≤ d) {p q lq : Nat} {T : Sta} (hpq : p + 9 ≤ q ∨ q + 9 ≤ p) (hp : p + 8 < 1000000) (hP : CRq T lp p f) (hQ' : CRq S lq q f) (hB : Bd S) (h07 : S 0 7 = 0 ∨ S 0 7 = 1) : Tr G d 12 [.ref p, .ref q] n z f (fun v n' z' f' => v = none ∧ n' = n ∧ z' = z ∧ CRq S lq p f' ∧ ∀ x, ¬ (p ≤ x ∧ x ≤ p + 8) → f' x = f x) := by
  obtain ⟨p1, kd, ya, fa, mo, co, mv, tp, my, p2, -, p3, -, p4, -, p5, -, p6, -, p7, -, p8, -, p9, -⟩ := hP
  obtain ⟨q1, kd', ya', fa', mo', co', mv', tp', my', q2, q2', q3, q3', q4, q4', q5, q5', q6, q6', q7, q7', q8, q8', q9, q9'⟩ := hQ'
  have o0 : p < 1000000 := by omega
  have o1 : p + 1 < 1000000 := by omega
  have o2 : p + 2 < 1000000 := by omega
  have o3 : p + 3 < 1000000 := by omega
  have o4 : p + 4 < 1000000 := by omega
  have o5 : p + 5 < 1000000 := by omega
  have o6 : p + 6 < 1000000 := by omega
  have o7 : p + 7 < 1000000 := by omega
  have c0 : (0 : Int32).toNatClampNeg = 0 := rfl
  have c00 : ((0 : Int32) < 0) = False := eq_false (by decide)
  have c10 : (10 : Int32).toNatClampNeg = 10 := rfl
  have c6 : (6 : Int32).toNatClampNeg = 6 := rfl
  have c10n : ((10 : Int32) < 0) = False := eq_false (by decide)
  have c6n : ((6 : Int32) < 0) = False := eq_false (by decide)
  have h10 := hB.1.2
  have h6 := hB.2.1.2
  refine Tr.of2 (ls0 := [.ref p, .ref q]) hG mo_X0_copy (Nat.le_of_ble_eq_true rfl) rfl ?_
  intro X hi hd hXn hXz hXf hQ
  refine wp_sound (by rw [hi]; exact ok_X0_copy) (hd := []) 400 _ _ _ _ _ _ ?_
  simp (disch := omega) only [wp, stp, List.mem_cons, List.not_mem_nil, Nat.reduceEqDiff, or_false, or_self, false_or, or_true, true_or, Nat.reduceAdd, ↓reduceIte, List.getElem?_cons_zero, List.getElem?_cons_succ, nthV, List.set_cons_zero, List.set_cons_succ, noL, popA, catS, Value.category, List.length_cons, List.length_nil, Nat.reduceLT, Nat.reduceLeDiff, true_and, and_true, one0, zer1, imp_t, imp_f, ofN_nI, sdead, f20, f21, not_true_eq_false, upC_self, upC_ne, upC_upC, retC, fitC, isRefT, Option.toList_some, Option.toList_none, List.cons_append, List.nil_append, Nat.lt_add_one, Nat.zero_lt_succ, Nat.le_refl, Nat.add_zero, Nat.zero_add, Nat.one_ne_zero, Nat.zero_ne_one, Nat.lt_irrefl, List.length_set, fa_X0_copy, hi, hd, hQ, mr_X0_copy, p1, p2, p3, p4, p5, p6, p7, p8, p9, q1, q2, q3, q4, q5, q6, q7, q8, q9, o0, o1, o2, o3, o4, o5, o6, o7, hp, c0, c00, c10, c6, c10n, c6n, c100, c100n, not_false_eq_true, Nat.reduceAdd]
  have cp : ∀ (g g' h : Nat → Int32) (N m : Nat), (∀ t, t < m → g t = h t) → m ≤ N → ∀ t, t < m → va_cpy g g' 0 0 N t = h t := fun g g' h N m hg hm t ht => by
    rw [pk_cpy_in (by omega) (by omega), show 0 + (t - 0) = t by omega]; exact hg t ht
  refine ⟨h07, hd1, hd1, hd1, hd1, hd1, hd1, hd1, hd1, ⟨?_, _, _, _, _, _, _, _, _, by simp (disch := omega) only [upC_self, upC_ne]; rfl, cp _ _ _ _ _ q2' (Nat.le_refl _), by simp (disch := omega) only [upC_self, upC_ne]; rfl, cp _ _ _ _ _ q3' h10, by simp (disch := omega) only [upC_self, upC_ne]; rfl, cp _ _ _ _ _ q4' h10, by simp (disch := omega) only [upC_self, upC_ne]; rfl, cp _ _ _ _ _ q5' h10, by simp (disch := omega) only [upC_self, upC_ne]; rfl, cp _ _ _ _ _ q6' h10, by simp (disch := omega) only [upC_self, upC_ne]; rfl, cp _ _ _ _ _ q7' h10, by simp (disch := omega) only [upC_self, upC_ne]; rfl, cp _ _ _ _ _ q8' h10, upC_self _ _ _, cp _ _ _ _ _ q9' h6⟩, fun x hx => ?_⟩
  · simp (disch := omega) only [upC_self, upC_ne]
  · simp (disch := omega) only [upC_ne]
theorem t_waysInit (hG : Ok G) (hd1 : 1 ≤ d) {p : Nat} (hn : p + 4 ≤ CAP) (hz : z + 300 ≤ SCAP) (h : f p = cO 7 (new0 7)) {c1 : List Value} (h1 : f 1 = cO 0 c1) {b : Int32} (hb : b = 0 ∨ b = 1) (hp1 : 1 < p) : Tr G d 85 [.ref p, .ref 1, .int b] (p + 1) z f (fun v n' z' f' => v = none ∧ n' = p + 4 ∧ z' = z + 300 ∧ f' p = cO 7 [.ref 1, .int b, .ref (p + 1), .ref (p + 2), .ref (p + 3), .int 1] ∧ f' (p + 1) = cQ 100 (fun _ => none) ∧ f' (p + 2) = cI 100 (fun _ => 0) ∧ f' (p + 3) = cI 100 (fun _ => 0) ∧ ∀ x, ¬ (p ≤ x ∧ x ≤ p + 3) → f' x = f x) := by
  have hCAP : CAP = 600000 := rfl
  have hp : p < 1000000 := by omega
  rw [show new0 7 = [.null, .int 0, .null, .null, .null, .int 0] from rfl] at h
  refine Tr.of2 (ls0 := [.ref p, .ref 1, .int b]) hG mo_X7_init (Nat.le_of_ble_eq_true rfl) rfl ?_
  intro X hi hd hXn hXz hXf hQ
  refine wp_sound (by rw [hi]; exact ok_X7_init) (hd := []) 400 _ _ _ _ _ _ ?_
  simp (disch := omega) only [wp, stp, List.mem_cons, List.not_mem_nil, Nat.reduceEqDiff, or_false, or_self, false_or, or_true, true_or, Nat.reduceAdd, ↓reduceIte, List.getElem?_cons_zero, List.getElem?_cons_succ, nthV, List.set_cons_zero, List.set_cons_succ, noL, popA, catS, Value.category, List.length_cons, List.length_nil, Nat.reduceLT, Nat.reduceLeDiff, true_and, and_true, one0, zer1, imp_t, imp_f, ofN_nI, sdead, f20, f21, not_true_eq_false, upC_self, upC_ne, upC_upC, retC, fitC, isRefT, Option.toList_some, Option.toList_none, List.cons_append, List.nil_append, Nat.lt_add_one, Nat.zero_lt_succ, Nat.le_refl, Nat.add_zero, Nat.zero_add, Nat.one_ne_zero, Nat.zero_ne_one, Nat.lt_irrefl, List.length_set, fa_X7_init, hi, hd, hQ, mr_X7_init, h, h1, c100, c100n, hp, Nat.add_assoc, not_false_eq_true]
  refine ⟨by omega, by omega, by omega, by omega, by omega, by omega, by omega, by omega, fun x hx => ?_⟩
  simp (disch := omega) only [upC_ne]
theorem t_kingInit (hG : Ok G) (hd1 : 1 ≤ d) {p w : Nat} (hn : p + 2 ≤ CAP) (hz : z + 8 ≤ SCAP) (h : f p = cO 2 (new0 2)) {c1 c2 : List Value} (h1 : f 1 = cO 0 c1) (h2 : f w = cO 7 c2) (hp1 : 1 < p ∧ w < p) : Tr G d 36 [.ref p, .ref 1, .ref w] (p + 1) z f (fun v n' z' f' => v = none ∧ n' = p + 2 ∧ z' = z + 8 ∧ f' p = cO 2 [.ref w, .int 0, .ref 1, .ref (p + 1), .int 0, .int 0, .int 0, .int 0] ∧ f' (p + 1) = cI 8 (fun _ => 0) ∧ ∀ x, ¬ (p ≤ x ∧ x ≤ p + 1) → f' x = f x) := by
  have hCAP : CAP = 600000 := rfl
  have hp : p < 1000000 := by omega
  have c8 : (8 : Int32).toNatClampNeg = 8 := rfl
  have c8n : ((8 : Int32) < 0) = False := eq_false (by decide)
  rw [show new0 2 = [.null, .int 0, .null, .null, .int 0, .int 0, .int 0, .int 0] from rfl] at h
  refine Tr.of2 (ls0 := [.ref p, .ref 1, .ref w]) hG mo_X2_init (Nat.le_of_ble_eq_true rfl) rfl ?_
  intro X hi hd hXn hXz hXf hQ
  refine wp_sound (by rw [hi]; exact ok_X2_init) (hd := []) 400 _ _ _ _ _ _ ?_
  simp (disch := omega) only [wp, stp, List.mem_cons, List.not_mem_nil, Nat.reduceEqDiff, or_false, or_self, false_or, or_true, true_or, Nat.reduceAdd, ↓reduceIte, List.getElem?_cons_zero, List.getElem?_cons_succ, nthV, List.set_cons_zero, List.set_cons_succ, noL, popA, catS, Value.category, List.length_cons, List.length_nil, Nat.reduceLT, Nat.reduceLeDiff, true_and, and_true, one0, zer1, imp_t, imp_f, ofN_nI, sdead, f20, f21, not_true_eq_false, upC_self, upC_ne, upC_upC, retC, fitC, isRefT, Option.toList_some, Option.toList_none, List.cons_append, List.nil_append, Nat.lt_add_one, Nat.zero_lt_succ, Nat.le_refl, Nat.add_zero, Nat.zero_add, Nat.one_ne_zero, Nat.zero_ne_one, Nat.lt_irrefl, List.length_set, fa_X2_init, hi, hd, hQ, mr_X2_init, h, h1, h2, c8, c8n, hp, Nat.add_assoc, not_false_eq_true]
  refine ⟨by omega, by omega, by omega, fun x hx => ?_⟩
  simp (disch := omega) only [upC_ne]
theorem t_daysInit (hG : Ok G) (hd1 : 1 ≤ d) {p k : Nat} (hn : p + 4 ≤ CAP) (hz : z + 30 ≤ SCAP) (h : f p = cO 1 (new0 1)) {c1 c2 : List Value} (h1 : f 1 = cO 0 c1) (h2 : f k = cO 2 c2) (hp1 : 1 < p ∧ k < p) : Tr G d 29 [.ref p, .ref 1, .ref k] (p + 1) z f (fun v n' z' f' => v = none ∧ n' = p + 4 ∧ z' = z + 30 ∧ f' p = cO 1 [.ref 1, .ref k, .ref (p + 1), .ref (p + 2), .ref (p + 3)] ∧ f' (p + 1) = cI 10 (fun _ => 0) ∧ f' (p + 2) = cZ 10 (fun _ => 0) ∧ f' (p + 3) = cI 10 (fun _ => 0) ∧ ∀ x, ¬ (p ≤ x ∧ x ≤ p + 3) → f' x = f x) := by
  have hCAP : CAP = 600000 := rfl
  have hp : p < 1000000 := by omega
  have c10 : (10 : Int32).toNatClampNeg = 10 := rfl
  have c10n : ((10 : Int32) < 0) = False := eq_false (by decide)
  rw [show new0 1 = [.null, .null, .null, .null, .null] from rfl] at h
  refine Tr.of2 (ls0 := [.ref p, .ref 1, .ref k]) hG mo_X1_init (Nat.le_of_ble_eq_true rfl) rfl ?_
  intro X hi hd hXn hXz hXf hQ
  refine wp_sound (by rw [hi]; exact ok_X1_init) (hd := []) 400 _ _ _ _ _ _ ?_
  simp (disch := omega) only [wp, stp, List.mem_cons, List.not_mem_nil, Nat.reduceEqDiff, or_false, or_self, false_or, or_true, true_or, Nat.reduceAdd, ↓reduceIte, List.getElem?_cons_zero, List.getElem?_cons_succ, nthV, List.set_cons_zero, List.set_cons_succ, noL, popA, catS, Value.category, List.length_cons, List.length_nil, Nat.reduceLT, Nat.reduceLeDiff, true_and, and_true, one0, zer1, imp_t, imp_f, ofN_nI, sdead, f20, f21, not_true_eq_false, upC_self, upC_ne, upC_upC, retC, fitC, isRefT, Option.toList_some, Option.toList_none, List.cons_append, List.nil_append, Nat.lt_add_one, Nat.zero_lt_succ, Nat.le_refl, Nat.add_zero, Nat.zero_add, Nat.one_ne_zero, Nat.zero_ne_one, Nat.lt_irrefl, List.length_set, fa_X1_init, hi, hd, hQ, mr_X1_init, h, h1, h2, c10, c10n, hp, Nat.add_assoc, not_false_eq_true]
  refine ⟨by omega, by omega, by omega, by omega, by omega, by omega, by omega, fun x hx => ?_⟩
  simp (disch := omega) only [upC_ne]
theorem t_thoughtInit (hG : Ok G) (hd1 : 1 ≤ d) {p k y : Nat} (hn : p + 2 ≤ CAP) (hz : z + 610 ≤ SCAP) (h : f p = cO 6 (new0 6)) {c1 c2 c3 : List Value} (h1 : f 1 = cO 0 c1) (h2 : f k = cO 2 c2) (h3 : f y = cO 1 c3) (hp1 : 1 < p ∧ k < p ∧ y < p) : Tr G d 75 [.ref p, .ref 1, .ref k, .ref y] (p + 1) z f (fun v n' z' f' => v = none ∧ n' = p + 2 ∧ z' = z + 610 ∧ f' p = cO 6 [.int 0, .int 0, .int 0, .int 0, .int 0, .int 0, .int 0, .int 0, .int 0, .ref 1, .ref k, .ref y, .ref (p + 1)] ∧ f' (p + 1) = cI 610 (fun _ => 0) ∧ ∀ x, ¬ (p ≤ x ∧ x ≤ p + 1) → f' x = f x) := by
  have hCAP : CAP = 600000 := rfl
  have hp : p < 1000000 := by omega
  have c10 : (610 : Int32).toNatClampNeg = 610 := rfl
  have c10n : ((610 : Int32) < 0) = False := eq_false (by decide)
  rw [show new0 6 = [.int 0, .int 0, .int 0, .int 0, .int 0, .int 0, .int 0, .int 0, .int 0, .null, .null, .null, .null] from rfl] at h
  refine Tr.of2 (ls0 := [.ref p, .ref 1, .ref k, .ref y]) hG mo_X6_init (Nat.le_of_ble_eq_true rfl) rfl ?_
  intro X hi hd hXn hXz hXf hQ
  refine wp_sound (by rw [hi]; exact ok_X6_init) (hd := []) 400 _ _ _ _ _ _ ?_
  simp (disch := omega) only [wp, stp, List.mem_cons, List.not_mem_nil, Nat.reduceEqDiff, or_false, or_self, false_or, or_true, true_or, Nat.reduceAdd, ↓reduceIte, List.getElem?_cons_zero, List.getElem?_cons_succ, nthV, List.set_cons_zero, List.set_cons_succ, noL, popA, catS, Value.category, List.length_cons, List.length_nil, Nat.reduceLT, Nat.reduceLeDiff, true_and, and_true, one0, zer1, imp_t, imp_f, ofN_nI, sdead, f20, f21, not_true_eq_false, upC_self, upC_ne, upC_upC, retC, fitC, isRefT, Option.toList_some, Option.toList_none, List.cons_append, List.nil_append, Nat.lt_add_one, Nat.zero_lt_succ, Nat.le_refl, Nat.add_zero, Nat.zero_add, Nat.one_ne_zero, Nat.zero_ne_one, Nat.lt_irrefl, List.length_set, fa_X6_init, hi, hd, hQ, mr_X6_init, h, h1, h2, h3, c10, c10n, hp, Nat.add_assoc, not_false_eq_true]
  refine ⟨by omega, by omega, by omega, fun x hx => ?_⟩
  simp (disch := omega) only [upC_ne]
end CampW
