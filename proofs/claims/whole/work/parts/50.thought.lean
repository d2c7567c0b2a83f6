-- Thought: told pays, nights, sendings, riddings
set_option maxRecDepth 100000
set_option maxHeartbeats 4000000
def TV (f : Mf) (a : Nat → Int32) : Prop := f 28 = cO 6 [.int (a 0), .int (a 1), .int (a 2), .int (a 3), .int (a 4), .int (a 5), .int (a 6), .int (a 7), .int (a 8), .ref 1, .ref 20, .ref 24, .ref 29]
theorem TV.cong {f f' : Mf} {a : Nat → Int32} (h : TV f a) (hf : f' 28 = f 28) : TV f' a := hf.trans h
theorem TV.up_0 {f : Mf} {a : Nat → Int32} (v : Int32) : TV (upC f 28 (cO 6 [.int v, .int (a 1), .int (a 2), .int (a 3), .int (a 4), .int (a 5), .int (a 6), .int (a 7), .int (a 8), .ref 1, .ref 20, .ref 24, .ref 29])) (upd a 0 v) := upC_self _ _ _
theorem TV.up_1 {f : Mf} {a : Nat → Int32} (v : Int32) : TV (upC f 28 (cO 6 [.int (a 0), .int v, .int (a 2), .int (a 3), .int (a 4), .int (a 5), .int (a 6), .int (a 7), .int (a 8), .ref 1, .ref 20, .ref 24, .ref 29])) (upd a 1 v) := upC_self _ _ _
theorem TV.up_2 {f : Mf} {a : Nat → Int32} (v : Int32) : TV (upC f 28 (cO 6 [.int (a 0), .int (a 1), .int v, .int (a 3), .int (a 4), .int (a 5), .int (a 6), .int (a 7), .int (a 8), .ref 1, .ref 20, .ref 24, .ref 29])) (upd a 2 v) := upC_self _ _ _
theorem TV.up_3 {f : Mf} {a : Nat → Int32} (v : Int32) : TV (upC f 28 (cO 6 [.int (a 0), .int (a 1), .int (a 2), .int v, .int (a 4), .int (a 5), .int (a 6), .int (a 7), .int (a 8), .ref 1, .ref 20, .ref 24, .ref 29])) (upd a 3 v) := upC_self _ _ _
theorem TV.up_4 {f : Mf} {a : Nat → Int32} (v : Int32) : TV (upC f 28 (cO 6 [.int (a 0), .int (a 1), .int (a 2), .int (a 3), .int v, .int (a 5), .int (a 6), .int (a 7), .int (a 8), .ref 1, .ref 20, .ref 24, .ref 29])) (upd a 4 v) := upC_self _ _ _
theorem TV.up_5 {f : Mf} {a : Nat → Int32} (v : Int32) : TV (upC f 28 (cO 6 [.int (a 0), .int (a 1), .int (a 2), .int (a 3), .int (a 4), .int v, .int (a 6), .int (a 7), .int (a 8), .ref 1, .ref 20, .ref 24, .ref 29])) (upd a 5 v) := upC_self _ _ _
theorem TV.up_6 {f : Mf} {a : Nat → Int32} (v : Int32) : TV (upC f 28 (cO 6 [.int (a 0), .int (a 1), .int (a 2), .int (a 3), .int (a 4), .int (a 5), .int v, .int (a 7), .int (a 8), .ref 1, .ref 20, .ref 24, .ref 29])) (upd a 6 v) := upC_self _ _ _
theorem TV.up_7 {f : Mf} {a : Nat → Int32} (v : Int32) : TV (upC f 28 (cO 6 [.int (a 0), .int (a 1), .int (a 2), .int (a 3), .int (a 4), .int (a 5), .int (a 6), .int v, .int (a 8), .ref 1, .ref 20, .ref 24, .ref 29])) (upd a 7 v) := upC_self _ _ _
theorem TV.up_8 {f : Mf} {a : Nat → Int32} (v : Int32) : TV (upC f 28 (cO 6 [.int (a 0), .int (a 1), .int (a 2), .int (a 3), .int (a 4), .int (a 5), .int (a 6), .int (a 7), .int v, .ref 1, .ref 20, .ref 24, .ref 29])) (upd a 8 v) := upC_self _ _ _
def fits (S : Sta) (L : Lw) : Prop := ∀ t, t < tn S → S 7 t = -1 ∨ S 7 t = nI (pyN S L 1 t)
noncomputable def ntc (S : Sta) (L : Lw) (t : Nat) (acc : Nat × Int32 × Int32) (c : Nat) : Nat × Int32 × Int32 :=
  @ite _ ((¬ nI c = S 2 t ∧ csN S t c) ∧ fits (upS S 2 t (nI c)) L) (Classical.propDecidable _) (acc.1 + 1, if acc.1 = 0 then nI t else acc.2.1, if acc.1 = 0 then nI c else acc.2.2) acc
noncomputable def nt1 (S : Sta) (L : Lw) (t : Nat) (acc : Nat × Int32 × Int32) : Nat → Nat × Int32 × Int32
  | 0 => acc
  | c + 1 => ntc S L t (nt1 S L t acc c) c
noncomputable def nt2 (S : Sta) (L : Lw) : Nat → Nat × Int32 × Int32
  | 0 => (@ite _ (fits S L) (Classical.propDecidable _) 1 0, -1, -1)
  | t + 1 => nt1 S L t (nt2 S L t) 100
theorem ntc_yes {S : Sta} {L : Lw} {t c : Nat} {acc : Nat × Int32 × Int32} (h1 : ¬ nI c = S 2 t) (h2 : csN S t c) (h3 : fits (upS S 2 t (nI c)) L) : ntc S L t acc c = (acc.1 + 1, if acc.1 = 0 then nI t else acc.2.1, if acc.1 = 0 then nI c else acc.2.2) := by
  unfold ntc; rw [if_pos ⟨⟨h1, h2⟩, h3⟩]
theorem ntc_no {S : Sta} {L : Lw} {t c : Nat} {acc : Nat × Int32 × Int32} (h : ¬ ((¬ nI c = S 2 t ∧ csN S t c) ∧ fits (upS S 2 t (nI c)) L)) : ntc S L t acc c = acc := by
  unfold ntc; rw [if_neg h]
theorem ntc_le {S : Sta} {L : Lw} {t c : Nat} {acc : Nat × Int32 × Int32} : (ntc S L t acc c).1 ≤ acc.1 + 1 := by
  by_cases h : (¬ nI c = S 2 t ∧ csN S t c) ∧ fits (upS S 2 t (nI c)) L
  · rw [ntc_yes h.1.1 h.1.2 h.2]; exact Nat.le_refl _
  · rw [ntc_no h]; omega
theorem nt1_le {S : Sta} {L : Lw} {t : Nat} {acc : Nat × Int32 × Int32} : ∀ c, (nt1 S L t acc c).1 ≤ acc.1 + c
  | 0 => Nat.le_refl _
  | c + 1 => by have := nt1_le (S := S) (L := L) (t := t) (acc := acc) c; have := ntc_le (S := S) (L := L) (t := t) (c := c) (acc := nt1 S L t acc c); rw [nt1]; omega
theorem nt2_le {S : Sta} {L : Lw} : ∀ t, (nt2 S L t).1 ≤ 1 + 100 * t
  | 0 => by
    show @ite _ (fits S L) (Classical.propDecidable _) 1 0 ≤ _
    split <;> omega
  | t + 1 => by have := nt2_le (S := S) (L := L) t; have := nt1_le (S := S) (L := L) (t := t) (acc := nt2 S L t) 100; rw [nt2]; omega
/-- a tent does not stand in its own way -/
theorem cs_self {S : Sta} {t : Nat} {c fam y : Int32} (ht : t < tn S) : csS (upS S 2 t y) c (nI t) fam ↔ csS S c (nI t) fam := by
  unfold csS
  have e : ∀ o, o < tn S → (clS (upS S 2 t y) c (nI t) fam o ↔ clS S c (nI t) fam o) := fun o ho => by
    unfold clS
    by_cases q : o = t
    · subst q
      exact ⟨fun _ z => z.1.1 rfl, fun _ z => z.1.1 rfl⟩
    · rw [upS_ne (fun z => q z.2), upS_row (by omega)]
  constructor
  · rintro ⟨h1, h2⟩; exact ⟨h1, fun o ho => (e o ho).mp (h2 o ho)⟩
  · rintro ⟨h1, h2⟩; exact ⟨h1, fun o ho => (e o ho).mpr (h2 o ho)⟩
theorem upS_back (S : Sta) (t : Nat) (y : Int32) : upS (upS S 2 t y) 2 t (S 2 t) = S := by rw [upS_upS, upS_id]
abbrev FT : List Nat := [3, 13, 14, 15, 20, 21, 28]
section Th1
variable {G : Gam} {d n z lp N Z K t : Nat} {f : Mf} {S : Sta} {L : Lw} {a : Nat → Int32}
theorem t_fitsTold (hG : Ok G) (hd1 : 5 ≤ d) (hS : VS S) (hW : CW S L lp N Z K f n z) (hT : TV f a) : Tr G d 84 [.ref 28] n z f (fun v n' z' f' => (∃ b : Int32, v = some (.int b) ∧ (b = 0 ∧ ¬ fits S L ∨ b = 1 ∧ fits S L)) ∧ CW S L lp N Z K f' n' z' ∧ FRM FK f n f' ∧ n ≤ n') := by
  obtain ⟨⟨b1, b2⟩, -⟩ := id hS.1.1
  refine Tr.of2 (ls0 := [.ref 28, dead, dead]) hG mo_X6_fitsTold (Nat.le_of_ble_eq_true rfl) rfl ?_
  intro X hi hd hXn hXz hXf hQ
  have loop : ∀ k' k n' z' g u2, k + k' = tn S → (∀ t, t < k → S 7 t = -1 ∨ S 7 t = nI (pyN S L 1 t)) → CW S L lp N Z K g n' z' → FRM FK f n g → n ≤ n' → V G X 2 [.ref 28, .int (nI k), u2] [] n' z' g := by
    intro k'
    induction k' with
    | zero =>
      intro k n' z' g u2 hk hall hW' hF' hn'
      have : k = tn S := by omega
      subst this
      have c1 := hW'.1.1
      have t1 : g 28 = _ := (hF'.1 28 (by omega) (by decide)).trans hT
      refine wp_sound (by rw [hi]; exact ok_X6_fitsTold) (hd := [2, 37]) 400 _ _ _ _ _ _ ?_
      simp only [wp, stp, List.mem_cons, List.not_mem_nil, Nat.reduceEqDiff, or_false, or_self, false_or, or_true, true_or, Nat.reduceAdd, ↓reduceIte, List.getElem?_cons_zero, List.getElem?_cons_succ, nthV, List.set_cons_zero, List.set_cons_succ, noL, popA, catS, Value.category, List.length_cons, List.length_nil, Nat.reduceLT, Nat.reduceLeDiff, true_and, and_true, one0, zer1, imp_t, imp_f, ofN_nI, sdead, f20, f21, not_true_eq_false, upC_ap, upC_upC, retC, fitC, isRefT, Option.toList_some, Option.toList_none, List.cons_append, List.nil_append, Nat.lt_add_one, Nat.zero_lt_succ, Nat.le_refl, Nat.add_zero, Nat.zero_add, Nat.one_ne_zero, Nat.zero_ne_one, Nat.lt_irrefl, List.length_set, fa_X6_fitsTold, hi, hd, hQ, mr_X6_fitsTold, c1, t1, b1]
      exact ⟨fun _ => ⟨⟨1, rfl, Or.inr ⟨rfl, hall⟩⟩, hW', hF', hn'⟩, fun h => absurd (Int32.le_refl _) h⟩
    | succ k' ih =>
      intro k n' z' g u2 hk hall hW' hF' hn'
      have t1 : g 28 = _ := (hF'.1 28 (by omega) (by decide)).trans hT
      obtain ⟨c1, kd, ya, fam, mo, co, mv, tp, my, -, -, -, -, -, -, -, -, -, -, -, -, c8, c8', -⟩ := id hW'.1
      have hct : (nI k).toNatClampNeg = k := nI_clamp (by omega)
      have hit : vp_in (nI k) 10 := (vin_nI (by omega)).mpr (by omega)
      have e8 : tp k = S 7 k := c8' k (by omega)
      obtain ⟨bY, hk1⟩ := hW'.kb
      obtain ⟨kn0, fk0, fa0, ne0, hk0⟩ := id hk1
      unfold KV at hk0
      have nxt : ∀ n' z' g u2, (S 7 k = -1 ∨ S 7 k = nI (pyN S L 1 k)) → CW S L lp N Z K g n' z' → FRM FK f n g → n ≤ n' → V G X 42 [.ref 28, .int (nI k), u2] [] n' z' g := by
        intro n' z' g u2 hq q1 q2 q3
        refine wp_sound (by rw [hi]; exact ok_X6_fitsTold) (hd := [2, 37]) 400 _ _ _ _ _ _ ?_
        simp only [wp, stp, List.mem_cons, List.not_mem_nil, Nat.reduceEqDiff, or_false, or_self, false_or, or_true, true_or, Nat.reduceAdd, ↓reduceIte, List.getElem?_cons_zero, List.getElem?_cons_succ, nthV, List.set_cons_zero, List.set_cons_succ, noL, popA, catS, Value.category, List.length_cons, List.length_nil, Nat.reduceLT, Nat.reduceLeDiff, true_and, and_true, one0, zer1, imp_t, imp_f, ofN_nI, sdead, f20, f21, not_true_eq_false, upC_ap, upC_upC, retC, fitC, isRefT, Option.toList_some, Option.toList_none, List.cons_append, List.nil_append, Nat.lt_add_one, Nat.zero_lt_succ, Nat.le_refl, Nat.add_zero, Nat.zero_add, Nat.one_ne_zero, Nat.zero_ne_one, Nat.lt_irrefl, List.length_set, fa_X6_fitsTold, hi, hd, hQ, mr_X6_fitsTold]
        try simp only [m1f]
        try simp (disch := omega) only [nmod, nI_leI, nI_ltI, nI_eq, nI_clamp, vin_nI, nI_1, fa_lit, nI_add, nI_rm3, nI_rm2, pk_rem, pk_mul, pk_sub, pk_div, nI_eM, nI_Me, nI_pM, nI_pMz, nI_pM0, M1_lt, M1_le, nI_ltM, nI_leM, i8_nI, true_and, and_true, false_implies, true_implies, not_false_eq_true, not_true_eq_false, ne_eq, implies_true, Nat.not_lt_zero, Nat.zero_le, ite_min, max0, Nat.reduceLT, Nat.reduceLeDiff, Nat.reduceEqDiff, Nat.reduceAdd, Nat.reduceMul]
        try simp only [m1u]
        refine ih (k + 1) n' z' g u2 (by omega) (fun t ht => ?_) q1 q2 q3
        by_cases e : t = k
        · subst e; exact hq
        · exact hall t (by omega)
      refine wp_sound (by rw [hi]; exact ok_X6_fitsTold) (hd := [2, 37, 42]) 400 _ _ _ _ _ _ ?_
      simp only [wp, stp, List.mem_cons, List.not_mem_nil, Nat.reduceEqDiff, or_false, or_self, false_or, or_true, true_or, Nat.reduceAdd, ↓reduceIte, List.getElem?_cons_zero, List.getElem?_cons_succ, nthV, List.set_cons_zero, List.set_cons_succ, noL, popA, catS, Value.category, List.length_cons, List.length_nil, Nat.reduceLT, Nat.reduceLeDiff, true_and, and_true, one0, zer1, imp_t, imp_f, ofN_nI, sdead, f20, f21, not_true_eq_false, upC_ap, upC_upC, retC, fitC, isRefT, Option.toList_some, Option.toList_none, List.cons_append, List.nil_append, Nat.lt_add_one, Nat.zero_lt_succ, Nat.le_refl, Nat.add_zero, Nat.zero_add, Nat.one_ne_zero, Nat.zero_ne_one, Nat.lt_irrefl, List.length_set, fa_X6_fitsTold, hi, hd, hQ, mr_X6_fitsTold, c1, t1, b1, c8, hct, e8, hk0]
      refine ⟨fun h => absurd ((nI_leI (by omega) (by omega)).mp h) (by omega), fun _ => ⟨hit, fun q => nxt _ _ _ _ (Or.inl q) hW' hF' hn', fun q => ⟨by omega, _, t_payOf_20 hG (by omega) hS.1.1 hW' hS.2.1 hk1 (by omega) (hS.2.2.1 k (by omega)), ?_⟩⟩⟩
      rintro v n2 z2 f2 ⟨rfl, hW2, hk2, hF2, hn2⟩
      refine wp_sound (by rw [hi]; exact ok_X6_fitsTold) (hd := [2, 37, 42]) 400 _ _ _ _ _ _ ?_
      simp only [wp, stp, List.mem_cons, List.not_mem_nil, Nat.reduceEqDiff, or_false, or_self, false_or, or_true, true_or, Nat.reduceAdd, ↓reduceIte, List.getElem?_cons_zero, List.getElem?_cons_succ, nthV, List.set_cons_zero, List.set_cons_succ, noL, popA, catS, Value.category, List.length_cons, List.length_nil, Nat.reduceLT, Nat.reduceLeDiff, true_and, and_true, one0, zer1, imp_t, imp_f, ofN_nI, sdead, f20, f21, not_true_eq_false, upC_ap, upC_upC, retC, fitC, isRefT, Option.toList_some, Option.toList_none, List.cons_append, List.nil_append, Nat.lt_add_one, Nat.zero_lt_succ, Nat.le_refl, Nat.add_zero, Nat.zero_add, Nat.one_ne_zero, Nat.zero_ne_one, Nat.lt_irrefl, List.length_set, fa_X6_fitsTold, hi, hd, hQ, mr_X6_fitsTold]
      refine ⟨fun h => nxt _ _ _ _ (Or.inr h) hW2 (hF'.trans hn' hF2.k) (by omega), fun h => ⟨⟨0, rfl, Or.inl ⟨rfl, fun hf => ?_⟩⟩, hW2, hF'.trans hn' hF2.k, by omega⟩⟩
      rcases hf k (by omega) with r | r
      · exact q r
      · exact h r
  refine wp_sound (by rw [hi]; exact ok_X6_fitsTold) (hd := [2, 37]) 400 _ _ _ _ _ _ ?_
  simp only [wp, stp, List.mem_cons, List.not_mem_nil, Nat.reduceEqDiff, or_false, or_self, false_or, or_true, true_or, Nat.reduceAdd, ↓reduceIte, List.getElem?_cons_zero, List.getElem?_cons_succ, nthV, List.set_cons_zero, List.set_cons_succ, noL, popA, catS, Value.category, List.length_cons, List.length_nil, Nat.reduceLT, Nat.reduceLeDiff, true_and, and_true, one0, zer1, imp_t, imp_f, ofN_nI, sdead, f20, f21, not_true_eq_false, upC_ap, upC_upC, retC, fitC, isRefT, Option.toList_some, Option.toList_none, List.cons_append, List.nil_append, Nat.lt_add_one, Nat.zero_lt_succ, Nat.le_refl, Nat.add_zero, Nat.zero_add, Nat.one_ne_zero, Nat.zero_ne_one, Nat.lt_irrefl, List.length_set, fa_X6_fitsTold, hi, hd, hQ, mr_X6_fitsTold]
  exact loop (tn S) 0 n z f _ (by omega) (fun t ht => absurd ht (Nat.not_lt_zero t)) hW (FRM.refl _ _ _) (Nat.le_refl _)
theorem t_noteGoing (hG : Ok G) (hT : TV f a) (t c : Int32) : Tr G d 83 [.ref 28, .int t, .int c] n z f (fun v n' z' f' => v = none ∧ n' = n ∧ z' = z ∧ (∀ x, ¬ x = 28 → f' x = f x) ∧ TV f' (upd (upd (upd a 6 (a 6 + 1)) 7 (if a 6 = 0 then t else a 7)) 8 (if a 6 = 0 then c else a 8))) := by
  unfold TV at hT ⊢
  refine Tr.of2 (ls0 := [.ref 28, .int t, .int c]) hG mo_X6_noteGoing (Nat.le_of_ble_eq_true rfl) rfl ?_
  intro X hi hd hXn hXz hXf hQ
  refine wp_sound (by rw [hi]; exact ok_X6_noteGoing) (hd := []) 400 _ _ _ _ _ _ ?_
  simp only [wp, stp, List.mem_cons, List.not_mem_nil, Nat.reduceEqDiff, or_false, or_self, false_or, or_true, true_or, Nat.reduceAdd, ↓reduceIte, List.getElem?_cons_zero, List.getElem?_cons_succ, nthV, List.set_cons_zero, List.set_cons_succ, noL, popA, catS, Value.category, List.length_cons, List.length_nil, Nat.reduceLT, Nat.reduceLeDiff, true_and, and_true, one0, zer1, imp_t, imp_f, ofN_nI, sdead, f20, f21, not_true_eq_false, upC_ap, upC_upC, retC, fitC, isRefT, Option.toList_some, Option.toList_none, List.cons_append, List.nil_append, Nat.lt_add_one, Nat.zero_lt_succ, Nat.le_refl, Nat.add_zero, Nat.zero_add, Nat.one_ne_zero, Nat.zero_ne_one, Nat.lt_irrefl, List.length_set, fa_X6_noteGoing, hi, hd, hQ, mr_X6_noteGoing, hT]
  refine ⟨fun h => ⟨fun x hx => if_neg hx, ?_⟩, fun h => ⟨fun x hx => if_neg hx, ?_⟩⟩
  · simp only [if_neg h, upd_ap]; rfl
  · simp only [if_pos h, upd_ap]; rfl
theorem t_gainWithout (hG : Ok G) (hd1 : 5 ≤ d) (hS : VS S) (hW : CW S L lp N Z K f n z) (hT : TV f a) {g : Nat} (ht : t < tn S) (hg : g < tn S) (hne : ¬ t = g) : Tr G d 81 [.ref 28, .int (nI t), .int (nI g)] n z f (fun v n' z' f' => v = some (.int (nI (pyN (upS S 2 g (-1)) L 1 t) - nI (pyN S L 1 t))) ∧ CW S L lp N Z K f' n' z' ∧ FRM FT f n f' ∧ n ≤ n') := by
  obtain ⟨⟨b1, b2⟩, -⟩ := id hS.1.1
  unfold TV at hT
  obtain ⟨bY, hk1⟩ := hW.kb
  obtain ⟨kn0, fk0, fa0, ne0, hk0⟩ := id hk1
  unfold KV at hk0
  have hct : (nI g).toNatClampNeg = g := nI_clamp (by omega)
  have hit : vp_in (nI g) 10 := (vin_nI (by omega)).mpr (by omega)
  have hSg : Bd (upS S 2 g (-1)) ∧ VB (upS S 2 g (-1)) ∧ ¬ upS S 2 g (-1) 2 t = -1 := by
    refine ⟨hS.1.1, fun o ho => ?_, by rw [upS_ne (fun q => hne q.2)]; exact hS.2.2.1 t ht⟩
    have e : ybS (upS S 2 g (-1)) o = if o < tn S ∧ o = g then -1 else ybS S o := by
      show (if o < tn S then (if 2 = 2 ∧ o = g then (-1 : Int32) else S 2 o) else if o < tn S + mn S then S 8 (o - tn S) else S 0 5) = _
      by_cases h1 : o < tn S
      · by_cases h2 : o = g
        · rw [if_pos h1, if_pos ⟨rfl, h2⟩, if_pos ⟨h1, h2⟩]
        · rw [if_pos h1, if_neg (fun z => h2 z.2), if_neg (fun z => h2 z.2), ybS, if_pos h1]
      · rw [if_neg h1, if_neg (fun (z : o < tn S ∧ o = g) => h1 z.1), ybS, if_neg h1]
    rw [e]
    split
    · exact Or.inl rfl
    · exact hS.2.1 o ho
  refine Tr.of2 (ls0 := [.ref 28, .int (nI t), .int (nI g), dead, dead, dead]) hG mo_X6_gainWithout (Nat.le_of_ble_eq_true rfl) rfl ?_
  intro X hi hd hXn hXz hXf hQ
  refine wp_sound (by rw [hi]; exact ok_X6_gainWithout) (hd := [8, 38]) 400 _ _ _ _ _ _ ?_
  simp only [wp, stp, List.mem_cons, List.not_mem_nil, Nat.reduceEqDiff, or_false, or_self, false_or, or_true, true_or, Nat.reduceAdd, ↓reduceIte, List.getElem?_cons_zero, List.getElem?_cons_succ, nthV, List.set_cons_zero, List.set_cons_succ, noL, popA, catS, Value.category, List.length_cons, List.length_nil, Nat.reduceLT, Nat.reduceLeDiff, true_and, and_true, one0, zer1, imp_t, imp_f, ofN_nI, sdead, f20, f21, not_true_eq_false, upC_ap, upC_upC, retC, fitC, isRefT, Option.toList_some, Option.toList_none, List.cons_append, List.nil_append, Nat.lt_add_one, Nat.zero_lt_succ, Nat.le_refl, Nat.add_zero, Nat.zero_add, Nat.one_ne_zero, Nat.zero_ne_one, Nat.lt_irrefl, List.length_set, fa_X6_gainWithout, hi, hd, hQ, mr_X6_gainWithout, hT, hk0]
  refine ⟨by omega, _, t_payOf_20 hG (by omega) hS.1.1 hW hS.2.1 hk1 ht (hS.2.2.1 t ht), ?_⟩
  rintro v n1 z1 f1 ⟨rfl, hW1, hk2, hF1, hn1⟩
  obtain ⟨c1, kd, ya, fam, mo, co, mv, tp, my, -, -, c3, c3', -⟩ := id hW1.1
  have t1 : f1 28 = _ := (hF1.1 28 (by omega) (by decide)).trans hT
  obtain ⟨bY2, hk3⟩ := (hW1.mv (t := g) (v := -1) c3).kb
  obtain ⟨kn1, fk1, fa1, ne1, hk4⟩ := id hk3
  unfold KV at hk4
  have hk5 : f1 20 = _ := ((upC_ne _ _ (by omega)).symm).trans hk4
  have eg : ya g = S 2 g := c3' g hg
  refine wp_sound (by rw [hi]; exact ok_X6_gainWithout) (hd := [8, 38]) 400 _ _ _ _ _ _ ?_
  simp only [wp, stp, List.mem_cons, List.not_mem_nil, Nat.reduceEqDiff, or_false, or_self, false_or, or_true, true_or, Nat.reduceAdd, ↓reduceIte, List.getElem?_cons_zero, List.getElem?_cons_succ, nthV, List.set_cons_zero, List.set_cons_succ, noL, popA, catS, Value.category, List.length_cons, List.length_nil, Nat.reduceLT, Nat.reduceLeDiff, true_and, and_true, one0, zer1, imp_t, imp_f, ofN_nI, sdead, f20, f21, not_true_eq_false, upC_ap, upC_upC, retC, fitC, isRefT, Option.toList_some, Option.toList_none, List.cons_append, List.nil_append, Nat.lt_add_one, Nat.zero_lt_succ, Nat.le_refl, Nat.add_zero, Nat.zero_add, Nat.one_ne_zero, Nat.zero_ne_one, Nat.lt_irrefl, List.length_set, fa_X6_gainWithout, hi, hd, hQ, mr_X6_gainWithout, t1, c1, c3, hct, hk5, eg]
  refine ⟨hit, hit, by omega, _, t_payOf_20 hG (by omega) hSg.1 (hW1.mv c3) hSg.2.1 hk3 ht hSg.2.2, ?_⟩
  rintro v n2 z2 f2 ⟨rfl, hW2, hk6, hF2, hn2⟩
  obtain ⟨c1', kd', ya', -, -, -, -, -, -, -, -, c3', c3'', -⟩ := id hW2.1
  have t2 : f2 28 = _ := (hF2.1 28 (by omega) (by decide)).trans ((upC_ne _ _ (by omega)).trans t1)
  refine wp_sound (by rw [hi]; exact ok_X6_gainWithout) (hd := [8, 38]) 400 _ _ _ _ _ _ ?_
  simp only [wp, stp, List.mem_cons, List.not_mem_nil, Nat.reduceEqDiff, or_false, or_self, false_or, or_true, true_or, Nat.reduceAdd, ↓reduceIte, List.getElem?_cons_zero, List.getElem?_cons_succ, nthV, List.set_cons_zero, List.set_cons_succ, noL, popA, catS, Value.category, List.length_cons, List.length_nil, Nat.reduceLT, Nat.reduceLeDiff, true_and, and_true, one0, zer1, imp_t, imp_f, ofN_nI, sdead, f20, f21, not_true_eq_false, upC_ap, upC_upC, retC, fitC, isRefT, Option.toList_some, Option.toList_none, List.cons_append, List.nil_append, Nat.lt_add_one, Nat.zero_lt_succ, Nat.le_refl, Nat.add_zero, Nat.zero_add, Nat.one_ne_zero, Nat.zero_ne_one, Nat.lt_irrefl, List.length_set, fa_X6_gainWithout, hi, hd, hQ, mr_X6_gainWithout, t2, c1', c3', hct]
  refine ⟨hit, ?_, ?_, by omega⟩
  · have := hW2.mv (t := g) (v := S 2 g) c3'
    rw [upS_back] at this
    exact this
  · exact ((((hF1.k.mono (fun x hx => by simp at hx ⊢; omega)).up (by omega) (by simp)).trans hn1 (hF2.k.mono (fun x hx => by simp at hx ⊢; omega))).up (by omega) (by simp))
theorem t_recallNight (hG : Ok G) (hd1 : 6 ≤ d) (hS : VS S) (hW : CW S L lp N Z K f n z) (hT : TV f a) : Tr G d 82 [.ref 28] n z f (fun v n' z' f' => v = none ∧ CW S L lp N Z K f' n' z' ∧ (∃ a', TV f' a' ∧ a' 6 = nI (nt2 S L (tn S)).1 ∧ a' 7 = (nt2 S L (tn S)).2.1 ∧ a' 8 = (nt2 S L (tn S)).2.2) ∧ FRM FT f n f' ∧ n ≤ n') := by
  obtain ⟨⟨b1, b2⟩, -⟩ := id hS.1.1
  have hT0 := hT
  unfold TV at hT
  refine Tr.of2 (ls0 := [.ref 28, dead, dead, dead]) hG mo_X6_recallNight (Nat.le_of_ble_eq_true rfl) rfl ?_
  intro X hi hd hXn hXz hXf hQ
  have outer : ∀ k' k n' z' g a' u2 u3, k + k' = tn S → CW S L lp N Z K g n' z' → TV g a' → a' 6 = nI (nt2 S L k).1 → a' 7 = (nt2 S L k).2.1 → a' 8 = (nt2 S L k).2.2 → FRM FT f n g → n ≤ n' → V G X 28 [.ref 28, .int (nI k), u2, u3] [] n' z' g := by
    intro k'
    induction k' with
    | zero =>
      intro k n' z' g a' u2 u3 hk hW' hT' h6 h7 h8 hF' hn'
      have : k = tn S := by omega
      subst this
      have c1 := hW'.1.1
      have t1 := hT'
      unfold TV at t1
      refine wp_sound (by rw [hi]; exact ok_X6_recallNight) (hd := [5, 28, 51, 80, 100, 109]) 400 _ _ _ _ _ _ ?_
      simp only [wp, stp, List.mem_cons, List.not_mem_nil, Nat.reduceEqDiff, or_false, or_self, false_or, or_true, true_or, Nat.reduceAdd, ↓reduceIte, List.getElem?_cons_zero, List.getElem?_cons_succ, nthV, List.set_cons_zero, List.set_cons_succ, noL, popA, catS, Value.category, List.length_cons, List.length_nil, Nat.reduceLT, Nat.reduceLeDiff, true_and, and_true, one0, zer1, imp_t, imp_f, ofN_nI, sdead, f20, f21, not_true_eq_false, upC_ap, upC_upC, retC, fitC, isRefT, Option.toList_some, Option.toList_none, List.cons_append, List.nil_append, Nat.lt_add_one, Nat.zero_lt_succ, Nat.le_refl, Nat.add_zero, Nat.zero_add, Nat.one_ne_zero, Nat.zero_ne_one, Nat.lt_irrefl, List.length_set, fa_X6_recallNight, hi, hd, hQ, mr_X6_recallNight, c1, t1, b1]
      exact ⟨fun _ => ⟨hW', ⟨a', hT', h6, h7, h8⟩, hF', hn'⟩, fun h => absurd (Int32.le_refl _) h⟩
    | succ k' ih =>
      intro k n' z' g a' u2 u3 hk hW' hT' h6 h7 h8 hF' hn'
      have hct : (nI k).toNatClampNeg = k := nI_clamp (by omega)
      have hit : vp_in (nI k) 10 := (vin_nI (by omega)).mpr (by omega)
      obtain ⟨hm, hm1, hm2⟩ := hS.home (show k < tn S by omega)
      have hm100 := hm1.1.1
      have inner : ∀ j' j n' z' g a', j + j' = 100 → CW S L lp N Z K g n' z' → TV g a' → a' 6 = nI (nt1 S L k (nt2 S L k) j).1 → a' 7 = (nt1 S L k (nt2 S L k) j).2.1 → a' 8 = (nt1 S L k (nt2 S L k) j).2.2 → FRM FT f n g → n ≤ n' → V G X 51 [.ref 28, .int (nI k), .int (S 2 k), .int (nI j)] [] n' z' g := by
        intro j'
        induction j' with
        | zero =>
          intro j n' z' g a' hj hW' hT' h6 h7 h8 hF' hn'
          have : j = 100 := by omega
          subst this
          refine wp_sound (by rw [hi]; exact ok_X6_recallNight) (hd := [5, 28, 51, 80, 100, 109]) 400 _ _ _ _ _ _ ?_
          simp only [wp, stp, List.mem_cons, List.not_mem_nil, Nat.reduceEqDiff, or_false, or_self, false_or, or_true, true_or, Nat.reduceAdd, ↓reduceIte, List.getElem?_cons_zero, List.getElem?_cons_succ, nthV, List.set_cons_zero, List.set_cons_succ, noL, popA, catS, Value.category, List.length_cons, List.length_nil, Nat.reduceLT, Nat.reduceLeDiff, true_and, and_true, one0, zer1, imp_t, imp_f, ofN_nI, sdead, f20, f21, not_true_eq_false, upC_ap, upC_upC, retC, fitC, isRefT, Option.toList_some, Option.toList_none, List.cons_append, List.nil_append, Nat.lt_add_one, Nat.zero_lt_succ, Nat.le_refl, Nat.add_zero, Nat.zero_add, Nat.one_ne_zero, Nat.zero_ne_one, Nat.lt_irrefl, List.length_set, fa_X6_recallNight, hi, hd, hQ, mr_X6_recallNight]
          try simp only [m1f]
          try simp (disch := omega) only [nmod, nI_leI, nI_ltI, nI_eq, nI_clamp, vin_nI, nI_1, fa_lit, nI_add, nI_rm3, nI_rm2, pk_rem, pk_mul, pk_sub, pk_div, nI_eM, nI_Me, nI_pM, nI_pMz, nI_pM0, M1_lt, M1_le, nI_ltM, nI_leM, i8_nI, true_and, and_true, false_implies, true_implies, not_false_eq_true, not_true_eq_false, ne_eq, implies_true, Nat.not_lt_zero, Nat.zero_le, ite_min, max0, Nat.reduceLT, Nat.reduceLeDiff, Nat.reduceEqDiff, Nat.reduceAdd, Nat.reduceMul]
          try simp only [m1u]
          exact ih (k + 1) n' z' g a' _ _ (by omega) hW' hT' h6 h7 h8 hF' hn'
        | succ j' ih2 =>
          intro j n' z' g a' hj hW' hT' h6 h7 h8 hF' hn'
          have hb1 := nt1_le (S := S) (L := L) (t := k) (acc := nt2 S L k) j
          have hb2 := nt2_le (S := S) (L := L) k
          obtain ⟨acc, hacc⟩ : ∃ acc, acc = nt1 S L k (nt2 S L k) j := ⟨_, rfl⟩
          have e119 : ∀ n' z' g a', CW S L lp N Z K g n' z' → TV g a' → a' 6 = nI (ntc S L k acc j).1 → a' 7 = (ntc S L k acc j).2.1 → a' 8 = (ntc S L k acc j).2.2 → FRM FT f n g → n ≤ n' → V G X 119 [.ref 28, .int (nI k), .int (S 2 k), .int (nI j)] [] n' z' g := by
            intro n' z' g a' q1 q2 q3 q4 q5 q6 q7
            refine wp_sound (by rw [hi]; exact ok_X6_recallNight) (hd := [5, 28, 51, 80, 100, 109]) 400 _ _ _ _ _ _ ?_
            simp only [wp, stp, List.mem_cons, List.not_mem_nil, Nat.reduceEqDiff, or_false, or_self, false_or, or_true, true_or, Nat.reduceAdd, ↓reduceIte, List.getElem?_cons_zero, List.getElem?_cons_succ, nthV, List.set_cons_zero, List.set_cons_succ, noL, popA, catS, Value.category, List.length_cons, List.length_nil, Nat.reduceLT, Nat.reduceLeDiff, true_and, and_true, one0, zer1, imp_t, imp_f, ofN_nI, sdead, f20, f21, not_true_eq_false, upC_ap, upC_upC, retC, fitC, isRefT, Option.toList_some, Option.toList_none, List.cons_append, List.nil_append, Nat.lt_add_one, Nat.zero_lt_succ, Nat.le_refl, Nat.add_zero, Nat.zero_add, Nat.one_ne_zero, Nat.zero_ne_one, Nat.lt_irrefl, List.length_set, fa_X6_recallNight, hi, hd, hQ, mr_X6_recallNight]
            try simp only [m1f]
            try simp (disch := omega) only [nmod, nI_leI, nI_ltI, nI_eq, nI_clamp, vin_nI, nI_1, fa_lit, nI_add, nI_rm3, nI_rm2, pk_rem, pk_mul, pk_sub, pk_div, nI_eM, nI_Me, nI_pM, nI_pMz, nI_pM0, M1_lt, M1_le, nI_ltM, nI_leM, i8_nI, true_and, and_true, false_implies, true_implies, not_false_eq_true, not_true_eq_false, ne_eq, implies_true, Nat.not_lt_zero, Nat.zero_le, ite_min, max0, Nat.reduceLT, Nat.reduceLeDiff, Nat.reduceEqDiff, Nat.reduceAdd, Nat.reduceMul]
            try simp only [m1u]
            exact ih2 (j + 1) n' z' g a' (by omega) q1 q2 (by rw [nt1, ← hacc]; exact q3) (by rw [nt1, ← hacc]; exact q4) (by rw [nt1, ← hacc]; exact q5) q6 q7
          rw [← hacc] at h6 h7 h8 hb1
          have skip : ¬ ((¬ nI j = S 2 k ∧ csN S k j) ∧ fits (upS S 2 k (nI j)) L) → V G X 119 [.ref 28, .int (nI k), .int (S 2 k), .int (nI j)] [] n' z' g := fun hq => e119 _ _ _ a' hW' hT' (by rw [ntc_no hq]; exact h6) (by rw [ntc_no hq]; exact h7) (by rw [ntc_no hq]; exact h8) hF' hn'
          obtain ⟨c1, kd, ya, fam, mo, co, mv, tp, my, -, -, c3, c3', c4, c4', -⟩ := id hW'.1
          have t1 := hT'
          unfold TV at t1
          have e4 : fam k = S 3 k := c4' k (by omega)
          refine wp_sound (by rw [hi]; exact ok_X6_recallNight) (hd := [5, 28, 51, 80, 100, 109, 119]) 400 _ _ _ _ _ _ ?_
          simp only [wp, stp, List.mem_cons, List.not_mem_nil, Nat.reduceEqDiff, or_false, or_self, false_or, or_true, true_or, Nat.reduceAdd, ↓reduceIte, List.getElem?_cons_zero, List.getElem?_cons_succ, nthV, List.set_cons_zero, List.set_cons_succ, noL, popA, catS, Value.category, List.length_cons, List.length_nil, Nat.reduceLT, Nat.reduceLeDiff, true_and, and_true, one0, zer1, imp_t, imp_f, ofN_nI, sdead, f20, f21, not_true_eq_false, upC_ap, upC_upC, retC, fitC, isRefT, Option.toList_some, Option.toList_none, List.cons_append, List.nil_append, Nat.lt_add_one, Nat.zero_lt_succ, Nat.le_refl, Nat.add_zero, Nat.zero_add, Nat.one_ne_zero, Nat.zero_ne_one, Nat.lt_irrefl, List.length_set, fa_X6_recallNight, hi, hd, hQ, mr_X6_recallNight, c1, t1, c4, hct, e4]
          refine ⟨fun h => absurd ((nI_leI (b := j) (a := 100) (by omega) (by omega)).mp h) (by omega), fun _ => ⟨fun h => skip (fun q => q.1.1 h), fun hne => ⟨hit, by omega, _, t_couldStand hG (by omega) hW'.1 hS.1.1 _ _ _, ?_⟩⟩⟩
          rintro v n2 z2 f2 ⟨rfl, rfl, rfl, rfl⟩
          refine wp_sound (by rw [hi]; exact ok_X6_recallNight) (hd := [5, 28, 51, 80, 100, 109, 119]) 400 _ _ _ _ _ _ ?_
          simp only [wp, stp, List.mem_cons, List.not_mem_nil, Nat.reduceEqDiff, or_false, or_self, false_or, or_true, true_or, Nat.reduceAdd, ↓reduceIte, List.getElem?_cons_zero, List.getElem?_cons_succ, nthV, List.set_cons_zero, List.set_cons_succ, noL, popA, catS, Value.category, List.length_cons, List.length_nil, Nat.reduceLT, Nat.reduceLeDiff, true_and, and_true, one0, zer1, imp_t, imp_f, ofN_nI, sdead, f20, f21, not_true_eq_false, upC_ap, upC_upC, retC, fitC, isRefT, Option.toList_some, Option.toList_none, List.cons_append, List.nil_append, Nat.lt_add_one, Nat.zero_lt_succ, Nat.le_refl, Nat.add_zero, Nat.zero_add, Nat.one_ne_zero, Nat.zero_ne_one, Nat.lt_irrefl, List.length_set, fa_X6_recallNight, hi, hd, hQ, mr_X6_recallNight, c1, t1, c3, hct, bI_0]
          refine ⟨fun hcs => ?_, fun hcs => skip (fun q => hcs q.1.2)⟩
          have hcs := Decidable.not_not.mp hcs
          have hS1 : VS (upS S 2 k (nI j)) := hS.mv (by omega) (by omega) hcs
          refine ⟨hit, by omega, _, t_fitsTold hG (by omega) hS1 (hW'.mv c3) (hT'.cong (upC_ne _ _ (by omega))), ?_⟩
          rintro v n3 z3 f3 ⟨⟨b, rfl, hb⟩, hW3, hF3, hn3⟩
          have hT3 : TV f3 a' := (hT'.cong (f' := upC f2 3 (cI 10 (upd ya k (nI j)))) (upC_ne _ _ (by omega))).cong (hF3.1 28 (by omega) (by decide))
          have hF4 : FRM FT f n f3 := (hF'.up (by omega) (by simp)).trans hn' (hF3.mono (fun x hx => by simp at hx ⊢; omega))
          have h109 : ∀ g a', CW (upS S 2 k (nI j)) L lp N Z K g n3 z3 → TV g a' → a' 6 = nI (ntc S L k acc j).1 → a' 7 = (ntc S L k acc j).2.1 → a' 8 = (ntc S L k acc j).2.2 → FRM FT f n g → V G X 109 [.ref 28, .int (nI k), .int (S 2 k), .int (nI j)] [] n3 z3 g := by
            intro g a' q1 q2 q3 q4 q5 q6
            obtain ⟨c1', kd', ya', -, -, -, -, -, -, -, -, c3'', -, -⟩ := id q1.1
            have t2 := q2
            unfold TV at t2
            refine wp_sound (by rw [hi]; exact ok_X6_recallNight) (hd := [5, 28, 51, 80, 100, 109, 119]) 400 _ _ _ _ _ _ ?_
            simp only [wp, stp, List.mem_cons, List.not_mem_nil, Nat.reduceEqDiff, or_false, or_self, false_or, or_true, true_or, Nat.reduceAdd, ↓reduceIte, List.getElem?_cons_zero, List.getElem?_cons_succ, nthV, List.set_cons_zero, List.set_cons_succ, noL, popA, catS, Value.category, List.length_cons, List.length_nil, Nat.reduceLT, Nat.reduceLeDiff, true_and, and_true, one0, zer1, imp_t, imp_f, ofN_nI, sdead, f20, f21, not_true_eq_false, upC_ap, upC_upC, retC, fitC, isRefT, Option.toList_some, Option.toList_none, List.cons_append, List.nil_append, Nat.lt_add_one, Nat.zero_lt_succ, Nat.le_refl, Nat.add_zero, Nat.zero_add, Nat.one_ne_zero, Nat.zero_ne_one, Nat.lt_irrefl, List.length_set, fa_X6_recallNight, hi, hd, hQ, mr_X6_recallNight, c1', t2, c3'', hct]
            have := q1.mv (t := k) (v := S 2 k) c3''
            rw [upS_back] at this
            exact ⟨hit, e119 _ _ _ a' this (q2.cong (upC_ne _ _ (by omega))) q3 q4 q5 (q6.up (by omega) (by simp)) (by omega)⟩
          have t3 := hT3
          unfold TV at t3
          rcases hb with ⟨rfl, hnf⟩ | ⟨rfl, hf⟩
          · refine wp_sound (by rw [hi]; exact ok_X6_recallNight) (hd := [5, 28, 51, 80, 100, 109]) 400 _ _ _ _ _ _ ?_
            simp only [wp, stp, List.mem_cons, List.not_mem_nil, Nat.reduceEqDiff, or_false, or_self, false_or, or_true, true_or, Nat.reduceAdd, ↓reduceIte, List.getElem?_cons_zero, List.getElem?_cons_succ, nthV, List.set_cons_zero, List.set_cons_succ, noL, popA, catS, Value.category, List.length_cons, List.length_nil, Nat.reduceLT, Nat.reduceLeDiff, true_and, and_true, one0, zer1, imp_t, imp_f, ofN_nI, sdead, f20, f21, not_true_eq_false, upC_ap, upC_upC, retC, fitC, isRefT, Option.toList_some, Option.toList_none, List.cons_append, List.nil_append, Nat.lt_add_one, Nat.zero_lt_succ, Nat.le_refl, Nat.add_zero, Nat.zero_add, Nat.one_ne_zero, Nat.zero_ne_one, Nat.lt_irrefl, List.length_set, fa_X6_recallNight, hi, hd, hQ, mr_X6_recallNight]
            intro _
            have hq : ¬ ((¬ nI j = S 2 k ∧ csN S k j) ∧ fits (upS S 2 k (nI j)) L) := fun q => hnf q.2
            exact h109 _ a' hW3 hT3 (by rw [ntc_no hq]; exact h6) (by rw [ntc_no hq]; exact h7) (by rw [ntc_no hq]; exact h8) hF4
          · refine wp_sound (by rw [hi]; exact ok_X6_recallNight) (hd := [5, 28, 51, 80, 100, 109]) 400 _ _ _ _ _ _ ?_
            simp only [wp, stp, List.mem_cons, List.not_mem_nil, Nat.reduceEqDiff, or_false, or_self, false_or, or_true, true_or, Nat.reduceAdd, ↓reduceIte, List.getElem?_cons_zero, List.getElem?_cons_succ, nthV, List.set_cons_zero, List.set_cons_succ, noL, popA, catS, Value.category, List.length_cons, List.length_nil, Nat.reduceLT, Nat.reduceLeDiff, true_and, and_true, one0, zer1, imp_t, imp_f, ofN_nI, sdead, f20, f21, not_true_eq_false, upC_ap, upC_upC, retC, fitC, isRefT, Option.toList_some, Option.toList_none, List.cons_append, List.nil_append, Nat.lt_add_one, Nat.zero_lt_succ, Nat.le_refl, Nat.add_zero, Nat.zero_add, Nat.one_ne_zero, Nat.zero_ne_one, Nat.lt_irrefl, List.length_set, fa_X6_recallNight, hi, hd, hQ, mr_X6_recallNight, t3]
            refine ⟨by omega, _, t_noteGoing hG hT3 _ _, ?_⟩
            rintro v n5 z5 f5 ⟨rfl, rfl, rfl, hx5, hT5⟩
            have e6 : (a' 6 = 0) ↔ acc.1 = 0 := by rw [h6, nI_e0 (by omega)]
            refine h109 f5 _ (hW3.off (fun x hx => hx5 x (by omega)) (fun x hx => hx5 x (by omega)) (hW3.2.2.2.2.1.cong (hx5 _ (by omega)) (hx5 _ (by omega))) (hW3.2.2.2.2.2.1.cong (hx5 _ (by omega)) (hx5 _ (by omega)))) hT5 ?_ ?_ ?_ ⟨fun x h1 h2 => (hx5 x (fun e => h2 (by rw [e]; simp))).trans (hF4.1 x h1 h2), fun x h1 h2 h3 => (hx5 x (by omega)).trans (hF4.2.1 x h1 h2 h3), fun x h1 => (hx5 x (by omega)).trans (hF4.2.2 x h1)⟩
            · rw [ntc_yes hne hcs hf]
              show a' 6 + 1 = nI (acc.1 + 1)
              rw [h6, nI_1]
            · rw [ntc_yes hne hcs hf]
              show (if a' 6 = 0 then nI k else a' 7) = if acc.1 = 0 then nI k else acc.2.1
              rw [h7]; simp only [e6]
            · rw [ntc_yes hne hcs hf]
              show (if a' 6 = 0 then nI j else a' 8) = if acc.1 = 0 then nI j else acc.2.2
              rw [h8]; simp only [e6]
      obtain ⟨c1, kd, ya, fam, mo, co, mv, tp, my, -, -, c3, c3', c4, c4', -⟩ := id hW'.1
      have t1 := hT'
      unfold TV at t1
      have e3 : ya k = S 2 k := c3' k (by omega)
      refine wp_sound (by rw [hi]; exact ok_X6_recallNight) (hd := [5, 28, 51, 80, 100, 109]) 400 _ _ _ _ _ _ ?_
      simp only [wp, stp, List.mem_cons, List.not_mem_nil, Nat.reduceEqDiff, or_false, or_self, false_or, or_true, true_or, Nat.reduceAdd, ↓reduceIte, List.getElem?_cons_zero, List.getElem?_cons_succ, nthV, List.set_cons_zero, List.set_cons_succ, noL, popA, catS, Value.category, List.length_cons, List.length_nil, Nat.reduceLT, Nat.reduceLeDiff, true_and, and_true, one0, zer1, imp_t, imp_f, ofN_nI, sdead, f20, f21, not_true_eq_false, upC_ap, upC_upC, retC, fitC, isRefT, Option.toList_some, Option.toList_none, List.cons_append, List.nil_append, Nat.lt_add_one, Nat.zero_lt_succ, Nat.le_refl, Nat.add_zero, Nat.zero_add, Nat.one_ne_zero, Nat.zero_ne_one, Nat.lt_irrefl, List.length_set, fa_X6_recallNight, hi, hd, hQ, mr_X6_recallNight, c1, t1, c3, hct, e3, b1]
      exact ⟨fun h => absurd ((nI_leI (by omega) (by omega)).mp h) (by omega), fun _ => ⟨hit, inner 100 0 n' z' g a' rfl hW' hT' h6 h7 h8 hF' hn'⟩⟩
  refine wp_sound (by rw [hi]; exact ok_X6_recallNight) (hd := [5, 28, 51, 80, 100, 109]) 400 _ _ _ _ _ _ ?_
  simp only [wp, stp, List.mem_cons, List.not_mem_nil, Nat.reduceEqDiff, or_false, or_self, false_or, or_true, true_or, Nat.reduceAdd, ↓reduceIte, List.getElem?_cons_zero, List.getElem?_cons_succ, nthV, List.set_cons_zero, List.set_cons_succ, noL, popA, catS, Value.category, List.length_cons, List.length_nil, Nat.reduceLT, Nat.reduceLeDiff, true_and, and_true, one0, zer1, imp_t, imp_f, ofN_nI, sdead, f20, f21, not_true_eq_false, upC_ap, upC_upC, retC, fitC, isRefT, Option.toList_some, Option.toList_none, List.cons_append, List.nil_append, Nat.lt_add_one, Nat.zero_lt_succ, Nat.le_refl, Nat.add_zero, Nat.zero_add, Nat.one_ne_zero, Nat.zero_ne_one, Nat.lt_irrefl, List.length_set, fa_X6_recallNight, hi, hd, hQ, mr_X6_recallNight, hT]
  refine ⟨by omega, _, t_fitsTold hG (by omega) hS hW hT0, ?_⟩
  rintro v n1 z1 f1 ⟨⟨b, rfl, hb⟩, hW1, hF1, hn1⟩
  have t1 : f1 28 = _ := (hF1.1 28 (by omega) (by decide)).trans hT
  have hW2 : ∀ c, CW S L lp N Z K (upC f1 28 c) n1 z1 := fun c => hW1.lo (by omega) (by omega)
  have hF2 : ∀ c, FRM FT f n (upC f1 28 c) := fun c => (hF1.mono (fun x hx => by simp at hx ⊢; omega)).up (by omega) (by simp)
  rcases hb with ⟨rfl, hnf⟩ | ⟨rfl, hf⟩
  · refine wp_sound (by rw [hi]; exact ok_X6_recallNight) (hd := [5, 28, 51, 80, 100, 109]) 400 _ _ _ _ _ _ ?_
    simp only [wp, stp, List.mem_cons, List.not_mem_nil, Nat.reduceEqDiff, or_false, or_self, false_or, or_true, true_or, Nat.reduceAdd, ↓reduceIte, List.getElem?_cons_zero, List.getElem?_cons_succ, nthV, List.set_cons_zero, List.set_cons_succ, noL, popA, catS, Value.category, List.length_cons, List.length_nil, Nat.reduceLT, Nat.reduceLeDiff, true_and, and_true, one0, zer1, imp_t, imp_f, ofN_nI, sdead, f20, f21, not_true_eq_false, upC_ap, upC_upC, retC, fitC, isRefT, Option.toList_some, Option.toList_none, List.cons_append, List.nil_append, Nat.lt_add_one, Nat.zero_lt_succ, Nat.le_refl, Nat.add_zero, Nat.zero_add, Nat.one_ne_zero, Nat.zero_ne_one, Nat.lt_irrefl, List.length_set, fa_X6_recallNight, hi, hd, hQ, mr_X6_recallNight, t1]
    intro _
    refine outer (tn S) 0 n1 z1 _ (upd (upd (upd a 6 0) 7 (-1)) 8 (-1)) _ _ (by omega) (hW2 _) (upC_self _ _ _) ?_ rfl rfl (hF2 _) hn1
    show (0 : Int32) = nI (@ite _ (fits S L) (Classical.propDecidable _) 1 0)
    rw [if_neg hnf]; rfl
  · refine wp_sound (by rw [hi]; exact ok_X6_recallNight) (hd := [5, 28, 51, 80, 100, 109]) 400 _ _ _ _ _ _ ?_
    simp only [wp, stp, List.mem_cons, List.not_mem_nil, Nat.reduceEqDiff, or_false, or_self, false_or, or_true, true_or, Nat.reduceAdd, ↓reduceIte, List.getElem?_cons_zero, List.getElem?_cons_succ, nthV, List.set_cons_zero, List.set_cons_succ, noL, popA, catS, Value.category, List.length_cons, List.length_nil, Nat.reduceLT, Nat.reduceLeDiff, true_and, and_true, one0, zer1, imp_t, imp_f, ofN_nI, sdead, f20, f21, not_true_eq_false, upC_ap, upC_upC, retC, fitC, isRefT, Option.toList_some, Option.toList_none, List.cons_append, List.nil_append, Nat.lt_add_one, Nat.zero_lt_succ, Nat.le_refl, Nat.add_zero, Nat.zero_add, Nat.one_ne_zero, Nat.zero_ne_one, Nat.lt_irrefl, List.length_set, fa_X6_recallNight, hi, hd, hQ, mr_X6_recallNight, t1]
    refine outer (tn S) 0 n1 z1 _ (upd (upd (upd a 6 1) 7 (-1)) 8 (-1)) _ _ (by omega) (hW2 _) (upC_self _ _ _) ?_ rfl rfl (hF2 _) hn1
    show (1 : Int32) = nI (@ite _ (fits S L) (Classical.propDecidable _) 1 0)
    rw [if_pos hf]; rfl
end Th1
