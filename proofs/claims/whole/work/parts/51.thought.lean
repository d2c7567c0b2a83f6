-- Thought: savings, the still fine, sendings
set_option maxRecDepth 100000
set_option maxHeartbeats 4000000
/-- one man more -/
def manS (S : Sta) (c : Nat) : Sta := upS (upS S 8 (mn S) (nI c)) 0 4 (S 0 4 + 1)
theorem manS_mn {S : Sta} {c : Nat} (h : Bd S) : mn (manS S c) = mn S + 1 := by
  obtain ⟨-, ⟨b3, b4⟩, -⟩ := h
  unfold manS
  rw [mn, upS_self, b3, nI_1, nI_clamp (by omega)]
theorem manS_tn {S : Sta} {c : Nat} : tn (manS S c) = tn S := by unfold manS tn; rw [upS_0 (by omega), upS_row (by omega)]
theorem manS_ok {S : Sta} {c : Nat} (hS : VS S) (hc : c < 100) (hg : grS S (nI c)) : Bd (manS S c) ∧ VB (manS S c) ∧ NG (manS S c) := by
  obtain ⟨⟨hB, hm5⟩, hV, hN, -⟩ := hS
  have em := manS_mn (c := c) hB
  have et := manS_tn (S := S) (c := c)
  have e0 : ∀ i, ¬ i = 4 → manS S c 0 i = S 0 i := fun i hi => by unfold manS; rw [upS_0 hi, upS_row (by omega)]
  have e4 : manS S c 0 4 = nI (mn S + 1) := by unfold manS; rw [upS_self, hB.2.1.1, nI_1]
  have er : ∀ j, ¬ j = 0 → ¬ j = 8 → manS S c j = S j := fun j h1 h2 => by unfold manS; rw [upS_row h1, upS_row h2]
  have e8 : ∀ i, manS S c 8 i = if i = mn S then nI c else S 8 i := fun i => by unfold manS; rw [upS_row (by omega), upS_ap]; simp only [true_and]
  have hgs := (gr_gs hB hc).mp hg
  have egs : ∀ x, gsN (manS S c) x ↔ gsN S x := fun x => by unfold gsN wdt hgt; rw [e0 0 (by omega), e0 1 (by omega), er 1 (by omega) (by omega)]
  refine ⟨⟨?_, ?_, ?_⟩, fun o ho => ?_, fun t ht => ?_⟩
  · rw [et, e0 3 (by omega)]; exact hB.1
  · rw [em, e4]; exact ⟨rfl, by omega⟩
  · rw [e0 0 (by omega), e0 1 (by omega)]; exact hB.2.2
  · rw [et, em] at ho
    have key : ybS (manS S c) o = if o = tn S + mn S then nI c else if o < tn S + mn S then ybS S o else S 0 5 := by
      unfold ybS
      rw [et, em, er 2 (by omega) (by omega), e0 5 (by omega)]
      by_cases h1 : o < tn S
      · rw [if_pos h1, if_neg (by omega), if_pos (by omega), if_pos h1]
      · rw [if_neg h1, if_neg h1]
        by_cases h2 : o = tn S + mn S
        · rw [if_pos (by omega), if_pos h2, e8, if_pos (by omega)]
        · rw [if_neg h2]
          by_cases h3 : o < tn S + mn S
          · rw [if_pos (by omega), if_pos h3, if_pos h3, e8, if_neg (by omega)]
          · rw [if_neg (by omega), if_neg h3]
    rw [key]
    split
    · exact Or.inr ⟨c, (egs c).mpr hgs, rfl⟩
    · split
      · rcases hV o (by omega) with q | ⟨x, q1, q2⟩
        · exact Or.inl q
        · exact Or.inr ⟨x, (egs x).mpr q1, q2⟩
      · have := hV (tn S + mn S) (by omega)
        unfold ybS at this
        rw [if_neg (by omega), if_neg (by omega)] at this
        rcases this with q | ⟨x, q1, q2⟩
        · exact Or.inl q
        · exact Or.inr ⟨x, (egs x).mpr q1, q2⟩
  · rw [et] at ht; rw [er 2 (by omega) (by omega)]; exact hN t ht
noncomputable def svV (S : Sta) (L : Lw) (c : Nat) : Nat := allN (manS S c) L
noncomputable def svS (S : Sta) (L : Lw) (k : Nat) : Option (Nat × Nat) := amx (fun c => frS S (nI c)) (fun c => 100000 - svV S L c) k
def svY (r : Option (Nat × Nat)) : Int32 := match r with | none => -1 | some q => nI q.1
def svD (now : Nat) (r : Option (Nat × Nat)) : Int32 := match r with | none => 0 | some q => nI now - nI (100000 - q.2)
theorem allN_le {S : Sta} (L : Lw) (h : tn S ≤ 10) : allN S L ≤ 99990 := Nat.le_trans (smF_le (fun o => pyN_le S L 1 o) (tn S)) (by omega)
theorem famN_le {S : Sta} (L : Lw) (t : Nat) (h : tn S ≤ 10) : famN S L t ≤ 99990 := Nat.le_trans (smF_le (fun o => famF_le S L t o) (tn S)) (by omega)
theorem sub_cmp {a b c : Nat} (ha : a < 1000000) (hb : b < 1000000) (hc : c < 1000000) : nI a - nI b ≤ nI a - nI c ↔ c ≤ b := by
  rw [Int32.le_iff_toInt_le, pk_sub_toInt (by omega) (by omega), pk_sub_toInt (by omega) (by omega)]; omega
theorem CR.man {S : Sta} {lp : Nat} {f : Mf} {my : Nat → Int32} (h : CR S lp f) (hB : Bd S) (h9 : f 9 = cI 6 my) (c : Nat) : CR (manS S c) lp (upC (upC f 9 (cI 6 (upd my (mn S) (nI c)))) 1 (cO 0 [.int (S 0 0), .int (S 0 1), .int (S 0 2), .ref 2, .int (S 0 3), .ref 3, .ref 4, .ref 5, .ref 6, .ref 7, .ref 8, .int (S 0 4 + 1), .ref 9, .int (S 0 5), .int (S 0 6), .int (S 0 7), .int (S 0 8), .int (S 0 9), .ref lp])) := by
  obtain ⟨h1, kd, ya, fa, mo, co, mv, tp, my', h2, h2', h3, h3', h4, h4', h5, h5', h6, h6', h7, h7', h8, h8', hm, hm'⟩ := h
  have e : my' = my := by rw [h9] at hm; cases hm; rfl
  subst e
  have em := manS_mn (c := c) hB
  have et := manS_tn (S := S) (c := c)
  have e0 : ∀ i, ¬ i = 4 → manS S c 0 i = S 0 i := fun i hi => by unfold manS; rw [upS_0 hi, upS_row (by omega)]
  have e4 : manS S c 0 4 = S 0 4 + 1 := by unfold manS; rw [upS_self]
  have er : ∀ j, ¬ j = 0 → ¬ j = 8 → manS S c j = S j := fun j h1 h2 => by unfold manS; rw [upS_row h1, upS_row h2]
  have hx : ∀ (a b : Cel) x, ¬ x = 1 → ¬ x = 9 → upC (upC f 9 a) 1 b x = f x := fun a b x p q => by rw [upC_ne _ _ p, upC_ne _ _ q]
  refine ⟨?_, kd, ya, fa, mo, co, mv, tp, upd my' (mn S) (nI c), ?_⟩
  · rw [upC_self, e0 0 (by omega), e0 1 (by omega), e0 2 (by omega), e0 3 (by omega), e4, e0 5 (by omega), e0 6 (by omega), e0 7 (by omega), e0 8 (by omega), e0 9 (by omega)]
  · rw [et, em, er 1 (by omega) (by omega), er 2 (by omega) (by omega), er 3 (by omega) (by omega), er 4 (by omega) (by omega), er 5 (by omega) (by omega), er 6 (by omega) (by omega), er 7 (by omega) (by omega)]
    refine ⟨by rw [hx _ _ _ (by omega) (by omega)]; exact h2, h2', by rw [hx _ _ _ (by omega) (by omega)]; exact h3, h3', by rw [hx _ _ _ (by omega) (by omega)]; exact h4, h4', by rw [hx _ _ _ (by omega) (by omega)]; exact h5, h5', by rw [hx _ _ _ (by omega) (by omega)]; exact h6, h6', by rw [hx _ _ _ (by omega) (by omega)]; exact h7, h7', by rw [hx _ _ _ (by omega) (by omega)]; exact h8, h8', by rw [upC_ne _ _ (by omega)]; exact upC_self _ _ _, fun i hi => ?_⟩
    rw [upd_ap]
    unfold manS
    rw [upS_row (by omega), upS_ap]
    by_cases q : i = mn S
    · rw [if_pos q, if_pos ⟨rfl, q⟩]
    · rw [if_neg q, if_neg (fun z => q z.2)]; exact hm' i (by omega)
theorem CR.unman {S : Sta} {lp c : Nat} {f : Mf} (h : CR (manS S c) lp f) (hB : Bd S) : CR S lp (upC f 1 (cO 0 [.int (S 0 0), .int (S 0 1), .int (S 0 2), .ref 2, .int (S 0 3), .ref 3, .ref 4, .ref 5, .ref 6, .ref 7, .ref 8, .int (S 0 4), .ref 9, .int (S 0 5), .int (S 0 6), .int (S 0 7), .int (S 0 8), .int (S 0 9), .ref lp])) := by
  obtain ⟨h1, kd, ya, fa, mo, co, mv, tp, my, h2, h2', h3, h3', h4, h4', h5, h5', h6, h6', h7, h7', h8, h8', h9, h9'⟩ := h
  have em := manS_mn (c := c) hB
  have et := manS_tn (S := S) (c := c)
  have er : ∀ j, ¬ j = 0 → ¬ j = 8 → manS S c j = S j := fun j h1 h2 => by unfold manS; rw [upS_row h1, upS_row h2]
  rw [et] at h3' h4' h5' h6' h7' h8'
  rw [em] at h9'
  rw [er 1 (by omega) (by omega)] at h2'
  rw [er 2 (by omega) (by omega)] at h3'
  rw [er 3 (by omega) (by omega)] at h4'
  rw [er 4 (by omega) (by omega)] at h5'
  rw [er 5 (by omega) (by omega)] at h6'
  rw [er 6 (by omega) (by omega)] at h7'
  rw [er 7 (by omega) (by omega)] at h8'
  refine ⟨upC_self _ _ _, kd, ya, fa, mo, co, mv, tp, my, by rw [upC_ne _ _ (by omega)]; exact h2, h2', by rw [upC_ne _ _ (by omega)]; exact h3, h3', by rw [upC_ne _ _ (by omega)]; exact h4, h4', by rw [upC_ne _ _ (by omega)]; exact h5, h5', by rw [upC_ne _ _ (by omega)]; exact h6, h6', by rw [upC_ne _ _ (by omega)]; exact h7, h7', by rw [upC_ne _ _ (by omega)]; exact h8, h8', by rw [upC_ne _ _ (by omega)]; exact h9, fun i hi => ?_⟩
  rw [h9' i (by omega)]
  unfold manS
  rw [upS_row (by omega), upS_ne (fun q => by omega)]
theorem i32_p1m1 (x : Int32) : x + 1 - 1 = x := by grind
abbrev FS : List Nat := [1, 3, 9, 13, 14, 15, 20, 21, 28]
section Th2
variable {G : Gam} {d n z lp N Z K t : Nat} {f : Mf} {S : Sta} {L : Lw} {a : Nat → Int32}
theorem t_findSaving (hG : Ok G) (hd1 : 6 ≤ d) (hS : VS S) (hW : CW S L lp N Z K f n z) (hT : TV f a) : Tr G d 78 [.ref 28] n z f (fun v n' z' f' => v = none ∧ CW S L lp N Z K f' n' z' ∧ (∃ a', TV f' a' ∧ a' 2 = svY (svS S L 100) ∧ a' 3 = svD (allN S L) (svS S L 100)) ∧ FRM FS f n f' ∧ n ≤ n') := by
  have hB := hS.1.1
  obtain ⟨⟨b1, b2⟩, ⟨b3, b4⟩, -⟩ := id hB
  have hm5 := hS.1.2
  unfold TV at hT
  obtain ⟨bY, hk1⟩ := hW.kb
  obtain ⟨kn0, fk0, fa0, ne0, hk0⟩ := id hk1
  unfold KV at hk0
  have hal := allN_le (S := S) L b2
  refine Tr.of2 (ls0 := [.ref 28, dead, dead, dead]) hG mo_X6_findSaving (Nat.le_of_ble_eq_true rfl) rfl ?_
  intro X hi hd hXn hXz hXf hQ
  have loop : ∀ k' k n' z' g a' u3, k + k' = 100 → CW S L lp N Z K g n' z' → TV g a' → a' 2 = svY (svS S L k) → a' 3 = svD (allN S L) (svS S L k) → FRM FS f n g → n ≤ n' → V G X 20 [.ref 28, .int (nI (allN S L)), .int (nI k), u3] [] n' z' g := by
    intro k'
    induction k' with
    | zero =>
      intro k n' z' g a' u3 hk hW' hT' e2 e3 hF' hn'
      have : k = 100 := by omega
      subst this
      refine wp_sound (by rw [hi]; exact ok_X6_findSaving) (hd := [7, 20, 34, 77]) 400 _ _ _ _ _ _ ?_
      simp only [wp, stp, List.mem_cons, List.not_mem_nil, Nat.reduceEqDiff, or_false, or_self, false_or, or_true, true_or, Nat.reduceAdd, ↓reduceIte, List.getElem?_cons_zero, List.getElem?_cons_succ, nthV, List.set_cons_zero, List.set_cons_succ, noL, popA, catS, Value.category, List.length_cons, List.length_nil, Nat.reduceLT, Nat.reduceLeDiff, true_and, and_true, one0, zer1, imp_t, imp_f, ofN_nI, sdead, f20, f21, not_true_eq_false, upC_ap, upC_upC, retC, fitC, isRefT, Option.toList_some, Option.toList_none, List.cons_append, List.nil_append, Nat.lt_add_one, Nat.zero_lt_succ, Nat.le_refl, Nat.add_zero, Nat.zero_add, Nat.one_ne_zero, Nat.zero_ne_one, Nat.lt_irrefl, List.length_set, fa_X6_findSaving, hi, hd, hQ, mr_X6_findSaving]
      try simp only [m1f]
      try simp (disch := omega) only [nmod, nI_leI, nI_ltI, nI_eq, nI_clamp, vin_nI, nI_1, fa_lit, nI_add, nI_rm3, nI_rm2, pk_rem, pk_mul, pk_sub, pk_div, nI_eM, nI_Me, nI_pM, nI_pMz, nI_pM0, M1_lt, M1_le, nI_ltM, nI_leM, i8_nI, true_and, and_true, false_implies, true_implies, not_false_eq_true, not_true_eq_false, ne_eq, implies_true, Nat.not_lt_zero, Nat.zero_le, ite_min, max0, Nat.reduceLT, Nat.reduceLeDiff, Nat.reduceEqDiff, Nat.reduceAdd, Nat.reduceMul]
      try simp only [m1u]
      exact ⟨hW', ⟨a', hT', e2, e3⟩, hF', hn'⟩
    | succ k' ih =>
      intro k n' z' g a' u3 hk hW' hT' e2 e3 hF' hn'
      have t1 := hT'
      unfold TV at t1
      have c1 := hW'.1.at
      have h118 : ∀ n' z' g a' u3, CW S L lp N Z K g n' z' → TV g a' → a' 2 = svY (svS S L (k + 1)) → a' 3 = svD (allN S L) (svS S L (k + 1)) → FRM FS f n g → n ≤ n' → V G X 118 [.ref 28, .int (nI (allN S L)), .int (nI k), u3] [] n' z' g := by
        intro n' z' g a' u3 q1 q2 q3 q4 q5 q6
        refine wp_sound (by rw [hi]; exact ok_X6_findSaving) (hd := [7, 20, 34, 77]) 400 _ _ _ _ _ _ ?_
        simp only [wp, stp, List.mem_cons, List.not_mem_nil, Nat.reduceEqDiff, or_false, or_self, false_or, or_true, true_or, Nat.reduceAdd, ↓reduceIte, List.getElem?_cons_zero, List.getElem?_cons_succ, nthV, List.set_cons_zero, List.set_cons_succ, noL, popA, catS, Value.category, List.length_cons, List.length_nil, Nat.reduceLT, Nat.reduceLeDiff, true_and, and_true, one0, zer1, imp_t, imp_f, ofN_nI, sdead, f20, f21, not_true_eq_false, upC_ap, upC_upC, retC, fitC, isRefT, Option.toList_some, Option.toList_none, List.cons_append, List.nil_append, Nat.lt_add_one, Nat.zero_lt_succ, Nat.le_refl, Nat.add_zero, Nat.zero_add, Nat.one_ne_zero, Nat.zero_ne_one, Nat.lt_irrefl, List.length_set, fa_X6_findSaving, hi, hd, hQ, mr_X6_findSaving]
        try simp only [m1f]
        try simp (disch := omega) only [nmod, nI_leI, nI_ltI, nI_eq, nI_clamp, vin_nI, nI_1, fa_lit, nI_add, nI_rm3, nI_rm2, pk_rem, pk_mul, pk_sub, pk_div, nI_eM, nI_Me, nI_pM, nI_pMz, nI_pM0, M1_lt, M1_le, nI_ltM, nI_leM, i8_nI, true_and, and_true, false_implies, true_implies, not_false_eq_true, not_true_eq_false, ne_eq, implies_true, Nat.not_lt_zero, Nat.zero_le, ite_min, max0, Nat.reduceLT, Nat.reduceLeDiff, Nat.reduceEqDiff, Nat.reduceAdd, Nat.reduceMul]
        try simp only [m1u]
        exact ih (k + 1) n' z' g a' u3 (by omega) q1 q2 q3 q4 q5 q6
      have c9 := hW'.1
      refine wp_sound (by rw [hi]; exact ok_X6_findSaving) (hd := [7, 20, 34, 77, 118]) 400 _ _ _ _ _ _ ?_
      simp only [wp, stp, List.mem_cons, List.not_mem_nil, Nat.reduceEqDiff, or_false, or_self, false_or, or_true, true_or, Nat.reduceAdd, ↓reduceIte, List.getElem?_cons_zero, List.getElem?_cons_succ, nthV, List.set_cons_zero, List.set_cons_succ, noL, popA, catS, Value.category, List.length_cons, List.length_nil, Nat.reduceLT, Nat.reduceLeDiff, true_and, and_true, one0, zer1, imp_t, imp_f, ofN_nI, sdead, f20, f21, not_true_eq_false, upC_ap, upC_upC, retC, fitC, isRefT, Option.toList_some, Option.toList_none, List.cons_append, List.nil_append, Nat.lt_add_one, Nat.zero_lt_succ, Nat.le_refl, Nat.add_zero, Nat.zero_add, Nat.one_ne_zero, Nat.zero_ne_one, Nat.lt_irrefl, List.length_set, fa_X6_findSaving, hi, hd, hQ, mr_X6_findSaving, c1, t1]
      refine ⟨fun h => absurd ((nI_leI (a := 100) (by omega) (by omega)).mp h) (by omega), fun _ => ⟨by omega, _, t_freeForMan hG (by omega) hW'.1 hB _, ?_⟩⟩
      rintro v n1 z1 f1 ⟨rfl, rfl, rfl, rfl⟩
      obtain ⟨-, kd, ya, fam, mo, co, mv, tp, my, -, -, -, -, -, -, -, -, -, -, -, -, -, -, c9, c9'⟩ := id hW'.1
      have hcm : (S 0 4).toNatClampNeg = mn S := rfl
      have hkf : f1 20 = _ := hW'.kb.choose_spec.choose_spec.choose_spec.choose_spec.choose_spec
      refine wp_sound (by rw [hi]; exact ok_X6_findSaving) (hd := [7, 20, 34, 77, 118]) 400 _ _ _ _ _ _ ?_
      simp only [wp, stp, List.mem_cons, List.not_mem_nil, Nat.reduceEqDiff, or_false, or_self, false_or, or_true, true_or, Nat.reduceAdd, ↓reduceIte, List.getElem?_cons_zero, List.getElem?_cons_succ, nthV, List.set_cons_zero, List.set_cons_succ, noL, popA, catS, Value.category, List.length_cons, List.length_nil, Nat.reduceLT, Nat.reduceLeDiff, true_and, and_true, one0, zer1, imp_t, imp_f, ofN_nI, sdead, f20, f21, not_true_eq_false, upC_ap, upC_upC, retC, fitC, isRefT, Option.toList_some, Option.toList_none, List.cons_append, List.nil_append, Nat.lt_add_one, Nat.zero_lt_succ, Nat.le_refl, Nat.add_zero, Nat.zero_add, Nat.one_ne_zero, Nat.zero_ne_one, Nat.lt_irrefl, List.length_set, fa_X6_findSaving, hi, hd, hQ, mr_X6_findSaving, c1, t1, c9, bI_0, hcm, hkf]
      refine ⟨fun hfr => ?_, fun hfr => ?_⟩
      · have hfr := Decidable.not_not.mp hfr
        obtain ⟨m1, m2, m3⟩ := manS_ok hS (by omega) hfr.1
        have hCm := hW'.1.man hB c9 k
        have hWm : CW (manS S k) L lp N Z K (upC (upC f1 9 (cI 6 (upd my (mn S) (nI k)))) 1 (cO 0 [.int (S 0 0), .int (S 0 1), .int (S 0 2), .ref 2, .int (S 0 3), .ref 3, .ref 4, .ref 5, .ref 6, .ref 7, .ref 8, .int (S 0 4 + 1), .ref 9, .int (S 0 5), .int (S 0 6), .int (S 0 7), .int (S 0 8), .int (S 0 9), .ref lp])) n1 z1 := hW'.camp (by unfold manS; rw [upS_0 (by omega), upS_row (by omega)]) (by unfold manS; rw [upS_0 (by omega), upS_row (by omega)]) (by unfold manS; rw [upS_row (by omega), upS_row (by omega)]) hCm (fun x hx => by rw [upC_ne _ _ (by omega), upC_ne _ _ (by omega)])
        obtain ⟨bY3, hk3⟩ := hWm.kb
        refine ⟨by rw [b3, vin_nI (by omega)]; omega, by omega, _, t_allPays hG (by omega) m1 hWm m2 m3 hk3, ?_⟩
        rintro v n2 z2 f2 ⟨rfl, hW2, hk4, hF2, hn2⟩
        have hCu := hW2.1.unman hB
        have c2 := hW2.1.at
        have t2 : f2 28 = _ := (hF2.1 28 (by omega) (by decide)).trans (((upC_ne _ _ (by omega)).trans (upC_ne _ _ (by omega))).trans t1)
        have hWu : CW S L lp N Z K (upC f2 1 (cO 0 [.int (S 0 0), .int (S 0 1), .int (S 0 2), .ref 2, .int (S 0 3), .ref 3, .ref 4, .ref 5, .ref 6, .ref 7, .ref 8, .int (S 0 4), .ref 9, .int (S 0 5), .int (S 0 6), .int (S 0 7), .int (S 0 8), .int (S 0 9), .ref lp])) n2 z2 := hW2.camp (by unfold manS; rw [upS_0 (by omega), upS_row (by omega)]) (by unfold manS; rw [upS_0 (by omega), upS_row (by omega)]) (by unfold manS; rw [upS_row (by omega), upS_row (by omega)]) hCu (fun x hx => by rw [upC_ne _ _ (by omega)])
        have e0 : ∀ i, ¬ i = 4 → manS S k 0 i = S 0 i := fun i hi => by unfold manS; rw [upS_0 hi, upS_row (by omega)]
        have e4 : manS S k 0 4 = S 0 4 + 1 := by unfold manS; rw [upS_self]
        rw [e0 0 (by omega), e0 1 (by omega), e0 2 (by omega), e0 3 (by omega), e4, e0 5 (by omega), e0 6 (by omega), e0 7 (by omega), e0 8 (by omega), e0 9 (by omega)] at c2
        have hTu : ∀ c, TV (upC f2 1 c) a' := fun c => (upC_ne _ _ (by omega)).trans t2
        have hFu : ∀ c, FRM FS f n (upC f2 1 c) := fun c => (((hF'.up (by omega) (by simp)).up (by omega) (by simp)).trans hn' (hF2.mono (fun x hx => by simp at hx ⊢; omega))).up (by omega) (by simp)
        have hvl : svV S L k ≤ 99990 := allN_le L (by rw [manS_tn]; exact b2)
        obtain ⟨vk, hvk⟩ : ∃ vk, vk = svV S L k := ⟨_, rfl⟩
        have hvk' : allN (manS S k) L = vk := hvk.symm
        have hsuc : svS S L (k + 1) = amx (fun c => frS S (nI c)) (fun c => 100000 - svV S L c) (k + 1) := rfl
        have hcur : svS S L k = amx (fun c => frS S (nI c)) (fun c => 100000 - svV S L c) k := rfl
        rw [hvk']
        rw [← hvk] at hvl
        have take : ∀ _u3 : Value, (∀ q, svS S L k = some q → q.2 < 100000 - vk) → V G X 108 [.ref 28, .int (nI (allN S L)), .int (nI k), .int (nI (allN S L) - nI vk)] [] n2 z2 (upC f2 1 (cO 0 [.int (S 0 0), .int (S 0 1), .int (S 0 2), .ref 2, .int (S 0 3), .ref 3, .ref 4, .ref 5, .ref 6, .ref 7, .ref 8, .int (S 0 4), .ref 9, .int (S 0 5), .int (S 0 6), .int (S 0 7), .int (S 0 8), .int (S 0 9), .ref lp])) := by
          intro u3 hq
          have t3 := hTu (cO 0 [.int (S 0 0), .int (S 0 1), .int (S 0 2), .ref 2, .int (S 0 3), .ref 3, .ref 4, .ref 5, .ref 6, .ref 7, .ref 8, .int (S 0 4), .ref 9, .int (S 0 5), .int (S 0 6), .int (S 0 7), .int (S 0 8), .int (S 0 9), .ref lp])
          unfold TV at t3
          have eN : svS S L (k + 1) = some (k, 100000 - vk) := by rw [hsuc, amx_yes hfr (by rw [← hcur, ← hvk]; exact hq), ← hvk]
          refine wp_sound (by rw [hi]; exact ok_X6_findSaving) (hd := [7, 20, 34, 77, 118]) 400 _ _ _ _ _ _ ?_
          simp only [wp, stp, List.mem_cons, List.not_mem_nil, Nat.reduceEqDiff, or_false, or_self, false_or, or_true, true_or, Nat.reduceAdd, ↓reduceIte, List.getElem?_cons_zero, List.getElem?_cons_succ, nthV, List.set_cons_zero, List.set_cons_succ, noL, popA, catS, Value.category, List.length_cons, List.length_nil, Nat.reduceLT, Nat.reduceLeDiff, true_and, and_true, one0, zer1, imp_t, imp_f, ofN_nI, sdead, f20, f21, not_true_eq_false, upC_ap, upC_upC, retC, fitC, isRefT, Option.toList_some, Option.toList_none, List.cons_append, List.nil_append, Nat.lt_add_one, Nat.zero_lt_succ, Nat.le_refl, Nat.add_zero, Nat.zero_add, Nat.one_ne_zero, Nat.zero_ne_one, Nat.lt_irrefl, List.length_set, fa_X6_findSaving, hi, hd, hQ, mr_X6_findSaving, t2]
          refine h118 _ _ _ (upd (upd a' 2 (nI k)) 3 (nI (allN S L) - nI vk)) _ (hWu.lo (by omega) (by omega)) (upC_self _ _ _) ?_ ?_ ((hFu _).up (by omega) (by simp)) (by omega)
          · rw [eN]; rfl
          · rw [eN]
            show nI (allN S L) - nI vk = nI (allN S L) - nI (100000 - (100000 - vk))
            rw [show 100000 - (100000 - vk) = vk by omega]
        refine wp_sound (by rw [hi]; exact ok_X6_findSaving) (hd := [7, 20, 34, 77, 108, 118]) 400 _ _ _ _ _ _ ?_
        simp only [wp, stp, List.mem_cons, List.not_mem_nil, Nat.reduceEqDiff, or_false, or_self, false_or, or_true, true_or, Nat.reduceAdd, ↓reduceIte, List.getElem?_cons_zero, List.getElem?_cons_succ, nthV, List.set_cons_zero, List.set_cons_succ, noL, popA, catS, Value.category, List.length_cons, List.length_nil, Nat.reduceLT, Nat.reduceLeDiff, true_and, and_true, one0, zer1, imp_t, imp_f, ofN_nI, sdead, f20, f21, not_true_eq_false, upC_ap, upC_upC, retC, fitC, isRefT, Option.toList_some, Option.toList_none, List.cons_append, List.nil_append, Nat.lt_add_one, Nat.zero_lt_succ, Nat.le_refl, Nat.add_zero, Nat.zero_add, Nat.one_ne_zero, Nat.zero_ne_one, Nat.lt_irrefl, List.length_set, fa_X6_findSaving, hi, hd, hQ, mr_X6_findSaving, t2, c2, i32_p1m1]
        refine ⟨fun hq => take dead (fun q h => ?_), fun hq => ⟨fun hle => ?_, fun hle => take dead (fun q h => ?_)⟩⟩
        · rw [e2, h] at hq
          have := (amx_in h).1
          exact absurd ((nI_em (a := q.1) (by omega)).mp hq) id
        · have hno : svS S L (k + 1) = svS S L k := by
            rw [hsuc, hcur]
            refine amx_no (fun _ => ?_)
            rw [← hcur, ← hvk]
            cases er : svS S L k with
            | none => rw [e2, er] at hq; exact absurd rfl hq
            | some q =>
              refine ⟨q, rfl, ?_⟩
              rw [e3, er] at hle
              have hle : nI (allN S L) - nI vk ≤ nI (allN S L) - nI (100000 - q.2) := hle
              rw [sub_cmp (by omega) (by omega) (by omega)] at hle
              omega
          exact h118 _ _ _ a' _ hWu (hTu _) (by rw [hno]; exact e2) (by rw [hno]; exact e3) (hFu _) (by omega)
        · rw [e3, h] at hle
          have hle : ¬ nI (allN S L) - nI vk ≤ nI (allN S L) - nI (100000 - q.2) := hle
          rw [sub_cmp (by omega) (by omega) (by omega)] at hle
          omega
      · have hno : svS S L (k + 1) = svS S L k := amx_no (fun q => absurd q hfr)
        exact h118 _ _ _ a' _ hW' hT' (by rw [hno]; exact e2) (by rw [hno]; exact e3) hF' hn'
  refine wp_sound (by rw [hi]; exact ok_X6_findSaving) (hd := [7, 20, 34, 77]) 400 _ _ _ _ _ _ ?_
  simp only [wp, stp, List.mem_cons, List.not_mem_nil, Nat.reduceEqDiff, or_false, or_self, false_or, or_true, true_or, Nat.reduceAdd, ↓reduceIte, List.getElem?_cons_zero, List.getElem?_cons_succ, nthV, List.set_cons_zero, List.set_cons_succ, noL, popA, catS, Value.category, List.length_cons, List.length_nil, Nat.reduceLT, Nat.reduceLeDiff, true_and, and_true, one0, zer1, imp_t, imp_f, ofN_nI, sdead, f20, f21, not_true_eq_false, upC_ap, upC_upC, retC, fitC, isRefT, Option.toList_some, Option.toList_none, List.cons_append, List.nil_append, Nat.lt_add_one, Nat.zero_lt_succ, Nat.le_refl, Nat.add_zero, Nat.zero_add, Nat.one_ne_zero, Nat.zero_ne_one, Nat.lt_irrefl, List.length_set, fa_X6_findSaving, hi, hd, hQ, mr_X6_findSaving, hT, hk0]
  refine ⟨by omega, _, t_allPays hG (by omega) hB hW hS.2.1 hS.2.2.1 hk1, ?_⟩
  rintro v n1 z1 f1 ⟨rfl, hW1, hk2, hF1, hn1⟩
  have t1 : f1 28 = _ := (hF1.1 28 (by omega) (by decide)).trans hT
  refine wp_sound (by rw [hi]; exact ok_X6_findSaving) (hd := [7, 20, 34, 77]) 400 _ _ _ _ _ _ ?_
  simp only [wp, stp, List.mem_cons, List.not_mem_nil, Nat.reduceEqDiff, or_false, or_self, false_or, or_true, true_or, Nat.reduceAdd, ↓reduceIte, List.getElem?_cons_zero, List.getElem?_cons_succ, nthV, List.set_cons_zero, List.set_cons_succ, noL, popA, catS, Value.category, List.length_cons, List.length_nil, Nat.reduceLT, Nat.reduceLeDiff, true_and, and_true, one0, zer1, imp_t, imp_f, ofN_nI, sdead, f20, f21, not_true_eq_false, upC_ap, upC_upC, retC, fitC, isRefT, Option.toList_some, Option.toList_none, List.cons_append, List.nil_append, Nat.lt_add_one, Nat.zero_lt_succ, Nat.le_refl, Nat.add_zero, Nat.zero_add, Nat.one_ne_zero, Nat.zero_ne_one, Nat.lt_irrefl, List.length_set, fa_X6_findSaving, hi, hd, hQ, mr_X6_findSaving, t1]
  exact loop 100 0 n1 z1 _ (upd (upd a 2 (-1)) 3 0) _ rfl (hW1.lo (by omega) (by omega)) (upC_self _ _ _) rfl rfl ((hF1.mono (fun x hx => by simp at hx ⊢; omega)).up (by omega) (by simp)) hn1
end Th2
