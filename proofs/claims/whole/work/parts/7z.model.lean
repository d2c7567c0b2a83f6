-- the reference: all placings tried
set_option maxRecDepth 100000
set_option maxHeartbeats 4000000
noncomputable def plG (S : Sta) (L : Lw) (m : Nat) : Nat → (Nat → Nat) → Nat → Nat → (Nat → Int32) → (Nat → Int32)
  | 0, pl, _, _, an => jdM S L m pl an
  | rem + 1, pl, i, fr, an => fY (gsN S) (fun an c => plG S L m rem (fun o => if o = i then c else pl o) (i + 1) (c + 1) an) (100 - fr) fr an
def gcN (S : Sta) : Nat → Nat → Nat
  | 0, _ => 0
  | n + 1, c => (if gsN S c then 1 else 0) + gcN S n (c + 1)
section Mzs
variable {G : Gam} {d n z m : Nat} {f f0 : Mf} {I W : Nat → Int32} {A : Nat → Nat → Int32} {s : Sc} {S : Sta} {L : Lw} {pl : Nat → Nat} {bs : Int32}
theorem t9_places (hG : Ok G) (hbs : bs = 1) (hS : VS S) (h : WR S bs (-1) W) (hL : WL W L) (hm : m = 1 ∨ m = 2 ∨ m = 3) : ∀ rem i, i + rem = m → ∀ d, 10 + rem ≤ d → ∀ fr pl an I A s b n z, fr ≤ 100 → WyM S bs s → (I 32 = nI m ∧ ∀ o, o < i → gsN S (pl o) ∧ A 45 o = nI (pl o)) → AnR m an I A b → b + 100 ^ rem ≤ 2000000 → Tr G d 197 [.ref 31, .int (nI i), .int (nI fr)] n z (mM f0 I W A s) (fun v n' z' f' => v = none ∧ n' = n ∧ z' = z ∧ ∃ I' A' s', f' = mM f0 I' W A' s' ∧ WyM S bs s' ∧ (∀ i, ¬ (33 ≤ i ∧ i ≤ 35) → I' i = I i) ∧ (∀ j, ¬ (45 ≤ j ∧ j ≤ 48) → A' j = A j) ∧ (∀ o, o < i → A' 45 o = A 45 o) ∧ AnR m (plG S L m rem pl i fr an) I' A' (b + 100 ^ rem)) := by
  have hB := hS.1.1
  intro rem
  induction rem with
  | zero =>
    intro i him d hd1 fr pl an I A s b n z hfr hs ⟨h32, hP⟩ hA hb
    have : i = m := by omega
    subst this
    refine Tr.of2 (ls0 := [.ref 31, .int (nI i), .int (nI fr), dead]) hG mo_X9_places (Nat.le_of_ble_eq_true rfl) rfl ?_
    intro X hi hd hXn hXz hXf hQ
    refine wpC_sound (PC_ok hG _) (by rw [hi]; exact ok_X9_places) (hd := [12, 15, 26, 49]) 400 _ _ _ _ _ _ ?_
    simp only [wp, stp, List.mem_cons, List.not_mem_nil, Nat.reduceEqDiff, or_false, or_self, false_or, or_true, true_or, Nat.reduceAdd, ↓reduceIte, List.getElem?_cons_zero, List.getElem?_cons_succ, nthV, List.set_cons_zero, List.set_cons_succ, noL, popA, catS, Value.category, List.length_cons, List.length_nil, Nat.reduceLT, Nat.reduceLeDiff, true_and, and_true, one0, zer1, imp_t, imp_f, ofN_nI, sdead, f20, f21, not_true_eq_false, upC_ap, upC_upC, retC, fitC, isRefT, Option.toList_some, Option.toList_none, List.cons_append, List.nil_append, Nat.lt_add_one, Nat.zero_lt_succ, Nat.le_refl, Nat.add_zero, Nat.zero_add, Nat.one_ne_zero, Nat.zero_ne_one, Nat.lt_irrefl, List.length_set, fa_X9_places, hi, hd, hQ, mr_X9_places, h32, true_implies, mM_31, mM_32, mM_33, mM_34, mM_35, mM_36, mM_37, mM_38, mM_39, mM_40, mM_41, mM_42, mM_43, mM_44, mM_45, mM_46, mM_47, mM_48, mu_31, mu_32, mu_33, mu_34, mu_35, mu_36, mu_37, mu_38, mu_39, mu_40, mu_41, mu_42, mu_43, mu_44, mu_45, mu_46, mu_47, mu_48, mO_len, mg_0, mg_1, mg_2, mg_3, mg_4, mg_5, mg_6, mg_7, mg_8, mg_9, mg_10, mg_11, mg_12, mg_13, mg_14, mg_15, mg_16, mg_17, mg_18, mg_19, mg_20, mg_21, mg_22, mg_23, mg_24, mg_25, mg_26, mg_27, mg_28, mg_29, mg_30, mg_31, mg_32, mg_33, mg_34, mg_35, ms_2, ms_8, ms_9, ms_10, ms_11, ms_12, ms_13, ms_14, ms_15, ms_16, ms_17, ms_18, ms_19, ms_22, ms_23, ms_32, ms_33, ms_34, ms_35, cN_0, vN_0, cN_1, vN_1, cN_2, vN_2, cN_3, vN_3, cN_4, vN_4, cN_5, vN_5, cN_6, vN_6, cN_7, vN_7, cN_8, vN_8, cN_9, vN_9, cN_190, vN_190, wpC, stpC, PC, PV, reduceCtorEq]
    refine ⟨by omega, _, t9_judges hG (by omega) hbs hS h hL hs hm ⟨⟨h32, by omega⟩, hP⟩ hA (by have : 100 ^ 0 = 1 := rfl; omega), ?_⟩
    rintro v n1 z1 f1 ⟨rfl, rfl, rfl, I', A', s', rfl, e1, e2, e3, e4⟩
    refine wpC_sound (PC_ok hG _) (by rw [hi]; exact ok_X9_places) (hd := [12, 15, 26, 49]) 400 _ _ _ _ _ _ ?_
    simp only [wp, stp, List.mem_cons, List.not_mem_nil, Nat.reduceEqDiff, or_false, or_self, false_or, or_true, true_or, Nat.reduceAdd, ↓reduceIte, List.getElem?_cons_zero, List.getElem?_cons_succ, nthV, List.set_cons_zero, List.set_cons_succ, noL, popA, catS, Value.category, List.length_cons, List.length_nil, Nat.reduceLT, Nat.reduceLeDiff, true_and, and_true, one0, zer1, imp_t, imp_f, ofN_nI, sdead, f20, f21, not_true_eq_false, upC_ap, upC_upC, retC, fitC, isRefT, Option.toList_some, Option.toList_none, List.cons_append, List.nil_append, Nat.lt_add_one, Nat.zero_lt_succ, Nat.le_refl, Nat.add_zero, Nat.zero_add, Nat.one_ne_zero, Nat.zero_ne_one, Nat.lt_irrefl, List.length_set, fa_X9_places, hi, hd, hQ, mr_X9_places, mM_31, mM_32, mM_33, mM_34, mM_35, mM_36, mM_37, mM_38, mM_39, mM_40, mM_41, mM_42, mM_43, mM_44, mM_45, mM_46, mM_47, mM_48, mu_31, mu_32, mu_33, mu_34, mu_35, mu_36, mu_37, mu_38, mu_39, mu_40, mu_41, mu_42, mu_43, mu_44, mu_45, mu_46, mu_47, mu_48, mO_len, mg_0, mg_1, mg_2, mg_3, mg_4, mg_5, mg_6, mg_7, mg_8, mg_9, mg_10, mg_11, mg_12, mg_13, mg_14, mg_15, mg_16, mg_17, mg_18, mg_19, mg_20, mg_21, mg_22, mg_23, mg_24, mg_25, mg_26, mg_27, mg_28, mg_29, mg_30, mg_31, mg_32, mg_33, mg_34, mg_35, ms_2, ms_8, ms_9, ms_10, ms_11, ms_12, ms_13, ms_14, ms_15, ms_16, ms_17, ms_18, ms_19, ms_22, ms_23, ms_32, ms_33, ms_34, ms_35, cN_0, vN_0, cN_1, vN_1, cN_2, vN_2, cN_3, vN_3, cN_4, vN_4, cN_5, vN_5, cN_6, vN_6, cN_7, vN_7, cN_8, vN_8, cN_9, vN_9, cN_190, vN_190, wpC, stpC, PC, PV, reduceCtorEq]
    exact ⟨I', A', s', rfl, e1, e2, fun j hj => e3 j (by omega), fun o ho => by rw [e3 45 (by omega)], e4⟩
  | succ rem ih =>
    intro i him d hd1 fr pl an I A s b n z hfr hs ⟨h32, hP⟩ hA hb
    have him' : ¬ i = m := by omega
    obtain ⟨P, hPd⟩ : ∃ P, P = 100 ^ rem := ⟨_, rfl⟩
    have hP100 : 100 ^ (rem + 1) = 100 * P := by rw [Nat.pow_succ, hPd]; omega
    have hP1 : 1 ≤ P := by rw [hPd]; exact Nat.one_le_pow _ _ (by omega)
    rw [hP100] at hb ⊢
    obtain ⟨R, hR⟩ : ∃ R, R = plG S L m (rem + 1) pl i fr an := ⟨_, rfl⟩
    rw [← hR]
    obtain ⟨F, hF⟩ : ∃ F : (Nat → Int32) → Nat → (Nat → Int32), F = fun an c => plG S L m rem (fun o => if o = i then c else pl o) (i + 1) (c + 1) an := ⟨_, rfl⟩
    rw [plG, ← hF] at hR
    refine Tr.of2 (ls0 := [.ref 31, .int (nI i), .int (nI fr), dead]) hG mo_X9_places (Nat.le_of_ble_eq_true rfl) rfl ?_
    intro X hi hd hXn hXz hXf hQ
    have loop : ∀ j c an1 I1 A1 s1 b1, c + j = 100 → fr ≤ c → R = fY (gsN S) F (100 - c) c an1 → WyM S bs s1 → (∀ i, ¬ (33 ≤ i ∧ i ≤ 35) → I1 i = I i) → (∀ j, ¬ (45 ≤ j ∧ j ≤ 48) → A1 j = A j) → (∀ o, o < i → A1 45 o = A 45 o) → AnR m an1 I1 A1 b1 → b1 + (100 - c) * P ≤ b + 100 * P → V G X 15 [.ref 31, .int (nI i), .int (nI fr), .int (nI c)] [] n z (mM f0 I1 W A1 s1) := by
      intro j
      induction j with
      | zero =>
        intro c an1 I1 A1 s1 b1 hc hfc hRc hs1 g1 g2 g3 g4 g5
        have : c = 100 := by omega
        subst this
        refine wpC_sound (PC_ok hG _) (by rw [hi]; exact ok_X9_places) (hd := [12, 15, 26, 49]) 400 _ _ _ _ _ _ ?_
        simp only [wp, stp, List.mem_cons, List.not_mem_nil, Nat.reduceEqDiff, or_false, or_self, false_or, or_true, true_or, Nat.reduceAdd, ↓reduceIte, List.getElem?_cons_zero, List.getElem?_cons_succ, nthV, List.set_cons_zero, List.set_cons_succ, noL, popA, catS, Value.category, List.length_cons, List.length_nil, Nat.reduceLT, Nat.reduceLeDiff, true_and, and_true, one0, zer1, imp_t, imp_f, ofN_nI, sdead, f20, f21, not_true_eq_false, upC_ap, upC_upC, retC, fitC, isRefT, Option.toList_some, Option.toList_none, List.cons_append, List.nil_append, Nat.lt_add_one, Nat.zero_lt_succ, Nat.le_refl, Nat.add_zero, Nat.zero_add, Nat.one_ne_zero, Nat.zero_ne_one, Nat.lt_irrefl, List.length_set, fa_X9_places, hi, hd, hQ, mr_X9_places, mM_31, mM_32, mM_33, mM_34, mM_35, mM_36, mM_37, mM_38, mM_39, mM_40, mM_41, mM_42, mM_43, mM_44, mM_45, mM_46, mM_47, mM_48, mu_31, mu_32, mu_33, mu_34, mu_35, mu_36, mu_37, mu_38, mu_39, mu_40, mu_41, mu_42, mu_43, mu_44, mu_45, mu_46, mu_47, mu_48, mO_len, mg_0, mg_1, mg_2, mg_3, mg_4, mg_5, mg_6, mg_7, mg_8, mg_9, mg_10, mg_11, mg_12, mg_13, mg_14, mg_15, mg_16, mg_17, mg_18, mg_19, mg_20, mg_21, mg_22, mg_23, mg_24, mg_25, mg_26, mg_27, mg_28, mg_29, mg_30, mg_31, mg_32, mg_33, mg_34, mg_35, ms_2, ms_8, ms_9, ms_10, ms_11, ms_12, ms_13, ms_14, ms_15, ms_16, ms_17, ms_18, ms_19, ms_22, ms_23, ms_32, ms_33, ms_34, ms_35, cN_0, vN_0, cN_1, vN_1, cN_2, vN_2, cN_3, vN_3, cN_4, vN_4, cN_5, vN_5, cN_6, vN_6, cN_7, vN_7, cN_8, vN_8, cN_9, vN_9, cN_190, vN_190, wpC, stpC, PC, PV, reduceCtorEq]
        try simp only [m1f]
        try simp (disch := omega) only [nmod, nI_leI, nI_ltI, nI_eq, nI_clamp, vin_nI, nI_1, fa_lit, nI_add, nI_rm3, nI_rm2, pk_rem, pk_mul, pk_sub, pk_div, nI_eM, nI_Me, nI_pM, nI_pMz, nI_pM0, M1_lt, M1_le, nI_ltM, nI_leM, i8_nI, true_and, and_true, false_implies, true_implies, not_false_eq_true, not_true_eq_false, ne_eq, implies_true, Nat.not_lt_zero, Nat.zero_le, ite_min, max0, Nat.reduceLT, Nat.reduceLeDiff, Nat.reduceEqDiff, Nat.reduceAdd, Nat.reduceMul, Nat.add_zero, Nat.zero_add]
        try simp only [m1u]
        rw [show R = an1 from hRc]
        exact ⟨I1, A1, s1, rfl, hs1, g1, g2, g3, g4.mono (by omega)⟩
      | succ j ihj =>
        intro c an1 I1 A1 s1 b1 hc hfc hRc hs1 g1 g2 g3 g4 g5
        have hc1 : ¬ 100 ≤ c := by omega
        have hPs : (100 - c) * P = (100 - (c + 1)) * P + P := by
          rw [show 100 - c = (100 - (c + 1)) + 1 by omega, Nat.succ_mul]
        rw [show 100 - c = (100 - (c + 1)) + 1 by omega, fY] at hRc
        refine wpC_sound (PC_ok hG _) (by rw [hi]; exact ok_X9_places) (hd := [12, 15, 26, 49]) 400 _ _ _ _ _ _ ?_
        simp only [wp, stp, List.mem_cons, List.not_mem_nil, Nat.reduceEqDiff, or_false, or_self, false_or, or_true, true_or, Nat.reduceAdd, ↓reduceIte, List.getElem?_cons_zero, List.getElem?_cons_succ, nthV, List.set_cons_zero, List.set_cons_succ, noL, popA, catS, Value.category, List.length_cons, List.length_nil, Nat.reduceLT, Nat.reduceLeDiff, true_and, and_true, one0, zer1, imp_t, imp_f, ofN_nI, sdead, f20, f21, not_true_eq_false, upC_ap, upC_upC, retC, fitC, isRefT, Option.toList_some, Option.toList_none, List.cons_append, List.nil_append, Nat.lt_add_one, Nat.zero_lt_succ, Nat.le_refl, Nat.add_zero, Nat.zero_add, Nat.one_ne_zero, Nat.zero_ne_one, Nat.lt_irrefl, List.length_set, fa_X9_places, hi, hd, hQ, mr_X9_places, hc1, mM_31, mM_32, mM_33, mM_34, mM_35, mM_36, mM_37, mM_38, mM_39, mM_40, mM_41, mM_42, mM_43, mM_44, mM_45, mM_46, mM_47, mM_48, mu_31, mu_32, mu_33, mu_34, mu_35, mu_36, mu_37, mu_38, mu_39, mu_40, mu_41, mu_42, mu_43, mu_44, mu_45, mu_46, mu_47, mu_48, mO_len, mg_0, mg_1, mg_2, mg_3, mg_4, mg_5, mg_6, mg_7, mg_8, mg_9, mg_10, mg_11, mg_12, mg_13, mg_14, mg_15, mg_16, mg_17, mg_18, mg_19, mg_20, mg_21, mg_22, mg_23, mg_24, mg_25, mg_26, mg_27, mg_28, mg_29, mg_30, mg_31, mg_32, mg_33, mg_34, mg_35, ms_2, ms_8, ms_9, ms_10, ms_11, ms_12, ms_13, ms_14, ms_15, ms_16, ms_17, ms_18, ms_19, ms_22, ms_23, ms_32, ms_33, ms_34, ms_35, cN_0, vN_0, cN_1, vN_1, cN_2, vN_2, cN_3, vN_3, cN_4, vN_4, cN_5, vN_5, cN_6, vN_6, cN_7, vN_7, cN_8, vN_8, cN_9, vN_9, cN_190, vN_190, wpC, stpC, PC, PV, reduceCtorEq]
        try simp only [m1f]
        try simp (disch := omega) only [nmod, nI_leI, nI_ltI, nI_eq, nI_clamp, vin_nI, nI_1, fa_lit, nI_add, nI_rm3, nI_rm2, pk_rem, pk_mul, pk_sub, pk_div, nI_eM, nI_Me, nI_pM, nI_pMz, nI_pM0, M1_lt, M1_le, nI_ltM, nI_leM, i8_nI, true_and, and_true, false_implies, true_implies, not_false_eq_true, not_true_eq_false, ne_eq, implies_true, Nat.not_lt_zero, Nat.zero_le, ite_min, max0, Nat.reduceLT, Nat.reduceLeDiff, Nat.reduceEqDiff, Nat.reduceAdd, Nat.reduceMul, Nat.add_zero, Nat.zero_add, hc1]
        try simp only [m1u]
        refine ⟨by omega, _, t9_isGrass hG (by omega) hB h (nI c), ?_⟩
        rintro v n1 z1 f1 ⟨rfl, rfl, rfl, rfl⟩
        by_cases hg : grS S (nI c)
        · have hgc := (gr_gs hB (by omega)).mp hg
          rw [bI_t hg]
          rw [if_pos hgc] at hRc
          have hAn : AnR m an1 I1 (upA A1 45 (upd (A1 45) i (nI c))) b1 := by
            obtain ⟨x1, x2, ⟨x3, x4⟩, x5, x6⟩ := g4
            have u : ∀ j, ¬ j = 45 → upA A1 45 (upd (A1 45) i (nI c)) j = A1 j := fun j hj => if_neg hj
            exact ⟨x1, x2, ⟨fun q => by rw [u 46 (by omega)]; exact x3 q, x4⟩, fun q => by rw [u 47 (by omega), u 48 (by omega)]; exact x5 q, x6⟩
          have hpre : ∀ o, o < i + 1 → gsN S ((fun o => if o = i then c else pl o) o) ∧ upA A1 45 (upd (A1 45) i (nI c)) 45 o = nI ((fun o => if o = i then c else pl o) o) := fun o ho => by
            rw [show upA A1 45 (upd (A1 45) i (nI c)) 45 = upd (A1 45) i (nI c) from if_pos rfl, upd_ap]
            by_cases q : o = i
            · simp only [if_pos q]; exact ⟨hgc, trivial⟩
            · simp only [if_neg q]; rw [g3 o (by omega)]; exact hP o (by omega)
          refine wpC_sound (PC_ok hG _) (by rw [hi]; exact ok_X9_places) (hd := [12, 15, 26, 49]) 400 _ _ _ _ _ _ ?_
          simp only [wp, stp, List.mem_cons, List.not_mem_nil, Nat.reduceEqDiff, or_false, or_self, false_or, or_true, true_or, Nat.reduceAdd, ↓reduceIte, List.getElem?_cons_zero, List.getElem?_cons_succ, nthV, List.set_cons_zero, List.set_cons_succ, noL, popA, catS, Value.category, List.length_cons, List.length_nil, Nat.reduceLT, Nat.reduceLeDiff, true_and, and_true, one0, zer1, imp_t, imp_f, ofN_nI, sdead, f20, f21, not_true_eq_false, upC_ap, upC_upC, retC, fitC, isRefT, Option.toList_some, Option.toList_none, List.cons_append, List.nil_append, Nat.lt_add_one, Nat.zero_lt_succ, Nat.le_refl, Nat.add_zero, Nat.zero_add, Nat.one_ne_zero, Nat.zero_ne_one, Nat.lt_irrefl, List.length_set, fa_X9_places, hi, hd, hQ, mr_X9_places, mM_31, mM_32, mM_33, mM_34, mM_35, mM_36, mM_37, mM_38, mM_39, mM_40, mM_41, mM_42, mM_43, mM_44, mM_45, mM_46, mM_47, mM_48, mu_31, mu_32, mu_33, mu_34, mu_35, mu_36, mu_37, mu_38, mu_39, mu_40, mu_41, mu_42, mu_43, mu_44, mu_45, mu_46, mu_47, mu_48, mO_len, mg_0, mg_1, mg_2, mg_3, mg_4, mg_5, mg_6, mg_7, mg_8, mg_9, mg_10, mg_11, mg_12, mg_13, mg_14, mg_15, mg_16, mg_17, mg_18, mg_19, mg_20, mg_21, mg_22, mg_23, mg_24, mg_25, mg_26, mg_27, mg_28, mg_29, mg_30, mg_31, mg_32, mg_33, mg_34, mg_35, ms_2, ms_8, ms_9, ms_10, ms_11, ms_12, ms_13, ms_14, ms_15, ms_16, ms_17, ms_18, ms_19, ms_22, ms_23, ms_32, ms_33, ms_34, ms_35, cN_0, vN_0, cN_1, vN_1, cN_2, vN_2, cN_3, vN_3, cN_4, vN_4, cN_5, vN_5, cN_6, vN_6, cN_7, vN_7, cN_8, vN_8, cN_9, vN_9, cN_190, vN_190, wpC, stpC, PC, PV, reduceCtorEq]
          try simp only [m1f]
          try simp (disch := omega) only [nmod, nI_leI, nI_ltI, nI_eq, nI_clamp, vin_nI, nI_1, fa_lit, nI_add, nI_rm3, nI_rm2, pk_rem, pk_mul, pk_sub, pk_div, nI_eM, nI_Me, nI_pM, nI_pMz, nI_pM0, M1_lt, M1_le, nI_ltM, nI_leM, i8_nI, true_and, and_true, false_implies, true_implies, not_false_eq_true, not_true_eq_false, ne_eq, implies_true, Nat.not_lt_zero, Nat.zero_le, ite_min, max0, Nat.reduceLT, Nat.reduceLeDiff, Nat.reduceEqDiff, Nat.reduceAdd, Nat.reduceMul, Nat.add_zero, Nat.zero_add]
          try simp only [m1u]
          refine ⟨by omega, by omega, _, ih (i + 1) (by omega) (d - 1) (by omega) (c + 1) (fun o => if o = i then c else pl o) an1 I1 _ s1 b1 n1 z1 (by omega) hs1 ⟨by rw [g1 32 (by omega)]; exact h32, hpre⟩ hAn (by rw [← hPd]; have : P ≤ (100 - c) * P := Nat.le_mul_of_pos_left _ (by omega); omega), ?_⟩
          rintro v n2 z2 f2 ⟨rfl, rfl, rfl, I2, A2, s2, rfl, e1, e2, e3, e4, e5⟩
          refine wpC_sound (PC_ok hG _) (by rw [hi]; exact ok_X9_places) (hd := [12, 15, 26, 49]) 400 _ _ _ _ _ _ ?_
          simp only [wp, stp, List.mem_cons, List.not_mem_nil, Nat.reduceEqDiff, or_false, or_self, false_or, or_true, true_or, Nat.reduceAdd, ↓reduceIte, List.getElem?_cons_zero, List.getElem?_cons_succ, nthV, List.set_cons_zero, List.set_cons_succ, noL, popA, catS, Value.category, List.length_cons, List.length_nil, Nat.reduceLT, Nat.reduceLeDiff, true_and, and_true, one0, zer1, imp_t, imp_f, ofN_nI, sdead, f20, f21, not_true_eq_false, upC_ap, upC_upC, retC, fitC, isRefT, Option.toList_some, Option.toList_none, List.cons_append, List.nil_append, Nat.lt_add_one, Nat.zero_lt_succ, Nat.le_refl, Nat.add_zero, Nat.zero_add, Nat.one_ne_zero, Nat.zero_ne_one, Nat.lt_irrefl, List.length_set, fa_X9_places, hi, hd, hQ, mr_X9_places, mM_31, mM_32, mM_33, mM_34, mM_35, mM_36, mM_37, mM_38, mM_39, mM_40, mM_41, mM_42, mM_43, mM_44, mM_45, mM_46, mM_47, mM_48, mu_31, mu_32, mu_33, mu_34, mu_35, mu_36, mu_37, mu_38, mu_39, mu_40, mu_41, mu_42, mu_43, mu_44, mu_45, mu_46, mu_47, mu_48, mO_len, mg_0, mg_1, mg_2, mg_3, mg_4, mg_5, mg_6, mg_7, mg_8, mg_9, mg_10, mg_11, mg_12, mg_13, mg_14, mg_15, mg_16, mg_17, mg_18, mg_19, mg_20, mg_21, mg_22, mg_23, mg_24, mg_25, mg_26, mg_27, mg_28, mg_29, mg_30, mg_31, mg_32, mg_33, mg_34, mg_35, ms_2, ms_8, ms_9, ms_10, ms_11, ms_12, ms_13, ms_14, ms_15, ms_16, ms_17, ms_18, ms_19, ms_22, ms_23, ms_32, ms_33, ms_34, ms_35, cN_0, vN_0, cN_1, vN_1, cN_2, vN_2, cN_3, vN_3, cN_4, vN_4, cN_5, vN_5, cN_6, vN_6, cN_7, vN_7, cN_8, vN_8, cN_9, vN_9, cN_190, vN_190, wpC, stpC, PC, PV, reduceCtorEq]
          try simp only [m1f]
          try simp (disch := omega) only [nmod, nI_leI, nI_ltI, nI_eq, nI_clamp, vin_nI, nI_1, fa_lit, nI_add, nI_rm3, nI_rm2, pk_rem, pk_mul, pk_sub, pk_div, nI_eM, nI_Me, nI_pM, nI_pMz, nI_pM0, M1_lt, M1_le, nI_ltM, nI_leM, i8_nI, true_and, and_true, false_implies, true_implies, not_false_eq_true, not_true_eq_false, ne_eq, implies_true, Nat.not_lt_zero, Nat.zero_le, ite_min, max0, Nat.reduceLT, Nat.reduceLeDiff, Nat.reduceEqDiff, Nat.reduceAdd, Nat.reduceMul, Nat.add_zero, Nat.zero_add]
          try simp only [m1u]
          refine ihj (c + 1) (F an1 c) I2 A2 s2 (b1 + P) (by omega) (by omega) hRc e1 (fun i hi => by rw [e2 i hi]; exact g1 i hi) (fun j hj => by rw [e3 j hj, show upA A1 45 _ j = A1 j from if_neg (by omega)]; exact g2 j hj) (fun o ho => ?_) ?_ (by omega)
          · rw [e4 o (by omega), show upA A1 45 (upd (A1 45) i (nI c)) 45 = upd (A1 45) i (nI c) from if_pos rfl, upd_ap, if_neg (by omega)]; exact g3 o ho
          · rw [hF, hPd]; exact e5
        · rw [bI_f hg]
          rw [if_neg (fun r => hg ((gr_gs hB (by omega)).mpr r))] at hRc
          refine wpC_sound (PC_ok hG _) (by rw [hi]; exact ok_X9_places) (hd := [12, 15, 26, 49]) 400 _ _ _ _ _ _ ?_
          simp only [wp, stp, List.mem_cons, List.not_mem_nil, Nat.reduceEqDiff, or_false, or_self, false_or, or_true, true_or, Nat.reduceAdd, ↓reduceIte, List.getElem?_cons_zero, List.getElem?_cons_succ, nthV, List.set_cons_zero, List.set_cons_succ, noL, popA, catS, Value.category, List.length_cons, List.length_nil, Nat.reduceLT, Nat.reduceLeDiff, true_and, and_true, one0, zer1, imp_t, imp_f, ofN_nI, sdead, f20, f21, not_true_eq_false, upC_ap, upC_upC, retC, fitC, isRefT, Option.toList_some, Option.toList_none, List.cons_append, List.nil_append, Nat.lt_add_one, Nat.zero_lt_succ, Nat.le_refl, Nat.add_zero, Nat.zero_add, Nat.one_ne_zero, Nat.zero_ne_one, Nat.lt_irrefl, List.length_set, fa_X9_places, hi, hd, hQ, mr_X9_places, mM_31, mM_32, mM_33, mM_34, mM_35, mM_36, mM_37, mM_38, mM_39, mM_40, mM_41, mM_42, mM_43, mM_44, mM_45, mM_46, mM_47, mM_48, mu_31, mu_32, mu_33, mu_34, mu_35, mu_36, mu_37, mu_38, mu_39, mu_40, mu_41, mu_42, mu_43, mu_44, mu_45, mu_46, mu_47, mu_48, mO_len, mg_0, mg_1, mg_2, mg_3, mg_4, mg_5, mg_6, mg_7, mg_8, mg_9, mg_10, mg_11, mg_12, mg_13, mg_14, mg_15, mg_16, mg_17, mg_18, mg_19, mg_20, mg_21, mg_22, mg_23, mg_24, mg_25, mg_26, mg_27, mg_28, mg_29, mg_30, mg_31, mg_32, mg_33, mg_34, mg_35, ms_2, ms_8, ms_9, ms_10, ms_11, ms_12, ms_13, ms_14, ms_15, ms_16, ms_17, ms_18, ms_19, ms_22, ms_23, ms_32, ms_33, ms_34, ms_35, cN_0, vN_0, cN_1, vN_1, cN_2, vN_2, cN_3, vN_3, cN_4, vN_4, cN_5, vN_5, cN_6, vN_6, cN_7, vN_7, cN_8, vN_8, cN_9, vN_9, cN_190, vN_190, wpC, stpC, PC, PV, reduceCtorEq]
          try simp only [m1f]
          try simp (disch := omega) only [nmod, nI_leI, nI_ltI, nI_eq, nI_clamp, vin_nI, nI_1, fa_lit, nI_add, nI_rm3, nI_rm2, pk_rem, pk_mul, pk_sub, pk_div, nI_eM, nI_Me, nI_pM, nI_pMz, nI_pM0, M1_lt, M1_le, nI_ltM, nI_leM, i8_nI, true_and, and_true, false_implies, true_implies, not_false_eq_true, not_true_eq_false, ne_eq, implies_true, Nat.not_lt_zero, Nat.zero_le, ite_min, max0, Nat.reduceLT, Nat.reduceLeDiff, Nat.reduceEqDiff, Nat.reduceAdd, Nat.reduceMul, Nat.add_zero, Nat.zero_add]
          try simp only [m1u]
          refine wpC_sound (PC_ok hG _) (by rw [hi]; exact ok_X9_places) (hd := [12, 15, 26, 49]) 400 _ _ _ _ _ _ ?_
          simp only [wp, stp, List.mem_cons, List.not_mem_nil, Nat.reduceEqDiff, or_false, or_self, false_or, or_true, true_or, Nat.reduceAdd, ↓reduceIte, List.getElem?_cons_zero, List.getElem?_cons_succ, nthV, List.set_cons_zero, List.set_cons_succ, noL, popA, catS, Value.category, List.length_cons, List.length_nil, Nat.reduceLT, Nat.reduceLeDiff, true_and, and_true, one0, zer1, imp_t, imp_f, ofN_nI, sdead, f20, f21, not_true_eq_false, upC_ap, upC_upC, retC, fitC, isRefT, Option.toList_some, Option.toList_none, List.cons_append, List.nil_append, Nat.lt_add_one, Nat.zero_lt_succ, Nat.le_refl, Nat.add_zero, Nat.zero_add, Nat.one_ne_zero, Nat.zero_ne_one, Nat.lt_irrefl, List.length_set, fa_X9_places, hi, hd, hQ, mr_X9_places, mM_31, mM_32, mM_33, mM_34, mM_35, mM_36, mM_37, mM_38, mM_39, mM_40, mM_41, mM_42, mM_43, mM_44, mM_45, mM_46, mM_47, mM_48, mu_31, mu_32, mu_33, mu_34, mu_35, mu_36, mu_37, mu_38, mu_39, mu_40, mu_41, mu_42, mu_43, mu_44, mu_45, mu_46, mu_47, mu_48, mO_len, mg_0, mg_1, mg_2, mg_3, mg_4, mg_5, mg_6, mg_7, mg_8, mg_9, mg_10, mg_11, mg_12, mg_13, mg_14, mg_15, mg_16, mg_17, mg_18, mg_19, mg_20, mg_21, mg_22, mg_23, mg_24, mg_25, mg_26, mg_27, mg_28, mg_29, mg_30, mg_31, mg_32, mg_33, mg_34, mg_35, ms_2, ms_8, ms_9, ms_10, ms_11, ms_12, ms_13, ms_14, ms_15, ms_16, ms_17, ms_18, ms_19, ms_22, ms_23, ms_32, ms_33, ms_34, ms_35, cN_0, vN_0, cN_1, vN_1, cN_2, vN_2, cN_3, vN_3, cN_4, vN_4, cN_5, vN_5, cN_6, vN_6, cN_7, vN_7, cN_8, vN_8, cN_9, vN_9, cN_190, vN_190, wpC, stpC, PC, PV, reduceCtorEq]
          try simp only [m1f]
          try simp (disch := omega) only [nmod, nI_leI, nI_ltI, nI_eq, nI_clamp, vin_nI, nI_1, fa_lit, nI_add, nI_rm3, nI_rm2, pk_rem, pk_mul, pk_sub, pk_div, nI_eM, nI_Me, nI_pM, nI_pMz, nI_pM0, M1_lt, M1_le, nI_ltM, nI_leM, i8_nI, true_and, and_true, false_implies, true_implies, not_false_eq_true, not_true_eq_false, ne_eq, implies_true, Nat.not_lt_zero, Nat.zero_le, ite_min, max0, Nat.reduceLT, Nat.reduceLeDiff, Nat.reduceEqDiff, Nat.reduceAdd, Nat.reduceMul, Nat.add_zero, Nat.zero_add]
          try simp only [m1u]
          exact ihj (c + 1) an1 I1 A1 s1 b1 (by omega) (by omega) hRc hs1 g1 g2 g3 g4 (by omega)
    have hne : ¬ nI i = nI m := fun q => him' ((nI_eq (by omega) (by omega)).mp q)
    have l15 := loop (100 - fr) fr an I A s b (by omega) (Nat.le_refl _) hR hs (fun _ _ => rfl) (fun _ _ => rfl) (fun _ _ => rfl) hA (by have : (100 - fr) * P ≤ 100 * P := Nat.mul_le_mul_right _ (by omega); omega)
    refine wpC_sound (PC_ok hG _) (by rw [hi]; exact ok_X9_places) (hd := [12, 15, 26, 49]) 400 _ _ _ _ _ _ ?_
    simp only [wp, stp, List.mem_cons, List.not_mem_nil, Nat.reduceEqDiff, or_false, or_self, false_or, or_true, true_or, Nat.reduceAdd, ↓reduceIte, List.getElem?_cons_zero, List.getElem?_cons_succ, nthV, List.set_cons_zero, List.set_cons_succ, noL, popA, catS, Value.category, List.length_cons, List.length_nil, Nat.reduceLT, Nat.reduceLeDiff, true_and, and_true, one0, zer1, imp_t, imp_f, ofN_nI, sdead, f20, f21, not_true_eq_false, upC_ap, upC_upC, retC, fitC, isRefT, Option.toList_some, Option.toList_none, List.cons_append, List.nil_append, Nat.lt_add_one, Nat.zero_lt_succ, Nat.le_refl, Nat.add_zero, Nat.zero_add, Nat.one_ne_zero, Nat.zero_ne_one, Nat.lt_irrefl, List.length_set, fa_X9_places, hi, hd, hQ, mr_X9_places, h32, hne, true_implies, mM_31, mM_32, mM_33, mM_34, mM_35, mM_36, mM_37, mM_38, mM_39, mM_40, mM_41, mM_42, mM_43, mM_44, mM_45, mM_46, mM_47, mM_48, mu_31, mu_32, mu_33, mu_34, mu_35, mu_36, mu_37, mu_38, mu_39, mu_40, mu_41, mu_42, mu_43, mu_44, mu_45, mu_46, mu_47, mu_48, mO_len, mg_0, mg_1, mg_2, mg_3, mg_4, mg_5, mg_6, mg_7, mg_8, mg_9, mg_10, mg_11, mg_12, mg_13, mg_14, mg_15, mg_16, mg_17, mg_18, mg_19, mg_20, mg_21, mg_22, mg_23, mg_24, mg_25, mg_26, mg_27, mg_28, mg_29, mg_30, mg_31, mg_32, mg_33, mg_34, mg_35, ms_2, ms_8, ms_9, ms_10, ms_11, ms_12, ms_13, ms_14, ms_15, ms_16, ms_17, ms_18, ms_19, ms_22, ms_23, ms_32, ms_33, ms_34, ms_35, cN_0, vN_0, cN_1, vN_1, cN_2, vN_2, cN_3, vN_3, cN_4, vN_4, cN_5, vN_5, cN_6, vN_6, cN_7, vN_7, cN_8, vN_8, cN_9, vN_9, cN_190, vN_190, wpC, stpC, PC, PV, reduceCtorEq]
    exact l15
theorem plG_S (hm : m = 1 ∨ m = 2 ∨ m = 3) (an : Nat → Int32) : plG S L m m pl 0 0 an = plS S L m an := by
  rcases hm with rfl | rfl | rfl
  · rfl
  · show fY (gsN S) (fun an c => fY (gsN S) (fun an c2 => jdA S L an c (some c2) none) (100 - (c + 1)) (c + 1) an) 100 0 an = fY (gsN S) (fun an p => fY (gsN S) (fun an q => jdA S L an p (some q) none) (99 - p) (p + 1) an) 100 0 an
    have e : (fun (an : Nat → Int32) c => fY (gsN S) (fun an c2 => jdA S L an c (some c2) none) (100 - (c + 1)) (c + 1) an) = (fun an p => fY (gsN S) (fun an q => jdA S L an p (some q) none) (99 - p) (p + 1) an) := by
      funext an c; rw [show 100 - (c + 1) = 99 - c by omega]
    rw [e]
  · show fY (gsN S) (fun an c => fY (gsN S) (fun an c2 => fY (gsN S) (fun an c3 => jdA S L an c (some c2) (some c3)) (100 - (c2 + 1)) (c2 + 1) an) (100 - (c + 1)) (c + 1) an) 100 0 an = fY (gsN S) (fun an p => fY (gsN S) (fun an q => fY (gsN S) (fun an r => jdA S L an p (some q) (some r)) (99 - q) (q + 1) an) (99 - p) (p + 1) an) 100 0 an
    have e2 : ∀ c, (fun (an : Nat → Int32) c2 => fY (gsN S) (fun an c3 => jdA S L an c (some c2) (some c3)) (100 - (c2 + 1)) (c2 + 1) an) = (fun an q => fY (gsN S) (fun an r => jdA S L an c (some q) (some r)) (99 - q) (q + 1) an) := fun c => by
      funext an c2; rw [show 100 - (c2 + 1) = 99 - c2 by omega]
    have e : (fun (an : Nat → Int32) c => fY (gsN S) (fun an c2 => fY (gsN S) (fun an c3 => jdA S L an c (some c2) (some c3)) (100 - (c2 + 1)) (c2 + 1) an) (100 - (c + 1)) (c + 1) an) = (fun an p => fY (gsN S) (fun an q => fY (gsN S) (fun an r => jdA S L an p (some q) (some r)) (99 - q) (q + 1) an) (99 - p) (p + 1) an) := by
      funext an c; rw [e2, show 100 - (c + 1) = 99 - c by omega]
    rw [e]
theorem jdM_20 (an : Nat → Int32) : ¬ jdM S L m pl an 20 = -1 := by
  have key : ∀ p q r an, ¬ jdA S L an p q r 20 = -1 := fun p q r an => by
    have p9 : ∀ c x y, ppN S L c x y ≤ 9999 := fun c x y => payF_le _ _ _ _ _ _
    have b9 : ∀ a x y, plB S L a x y ≤ 9999 := fun a x y => by
      unfold plB; split
      · omega
      · exact p9 _ _ _
    have hs : sumP S L p q r ≤ 29997 := by
      unfold sumP
      have := p9 p q r
      have := b9 p q r
      have := b9 p r q
      omega
    obtain ⟨sm, hsm⟩ : ∃ sm, sm = sumP S L p q r := ⟨_, rfl⟩
    rw [← hsm] at hs
    have nt : ∀ (a : Nat → Int32) k r0 r1 r2 j, ntR a k r0 r1 r2 j = if j = k + 3 then r2 else if j = k + 2 then r1 else if j = k + 1 then r0 else a j := fun a k r0 r1 r2 j => by
      unfold ntR; rw [upd_ap, upd_ap, upd_ap]
    have hm20 : (-1 : Int32) < nI sm := by
      rw [Int32.lt_iff_toInt_lt, nI_toInt (by omega)]; show (-1 : Int) < _; omega
    have k2 : ∀ a r0 r1 r2, ¬ jd2 a r0 r1 r2 (nI sm) 20 = -1 := fun a r0 r1 r2 => by
      unfold jd2
      by_cases z : a 20 < nI sm
      · rw [if_pos z, nt]
        show ¬ upd a 20 (nI sm) 20 = -1
        rw [upd_ap, if_pos rfl]; exact fun y => (nI_em (by omega)).mp y
      · rw [if_neg z]; exact fun y => z (by rw [y]; exact hm20)
    have k3 : ∀ a r0 r1 r2, jd3 a r0 r1 r2 20 = a 20 := fun a r0 r1 r2 => by
      unfold jd3; split
      · rw [upd_ap, if_neg (by omega), nt]; rfl
      · rw [upd_ap, if_neg (by omega)]
    unfold jdA
    rw [← hsm]
    split
    · rw [k3]; exact k2 _ _ _ _
    · exact k2 _ _ _ _
  exact key _ _ _ _
theorem plG_q : ∀ rem pl i fr an, fr ≤ 100 → (rem ≤ gcN S (100 - fr) fr → ¬ plG S L m rem pl i fr an 20 = -1) ∧ (gcN S (100 - fr) fr < rem → plG S L m rem pl i fr an = an) ∧ (¬ an 20 = -1 → ¬ plG S L m rem pl i fr an 20 = -1)
  | 0, pl, i, fr, an, _ => ⟨fun _ => jdM_20 _, fun q => absurd q (Nat.not_lt_zero _), fun _ => jdM_20 _⟩
  | rem + 1, pl, i, fr, an, hfr => by
    have key : ∀ j c an, c + j = 100 → (rem + 1 ≤ gcN S j c → ¬ fY (gsN S) (fun an c => plG S L m rem (fun o => if o = i then c else pl o) (i + 1) (c + 1) an) j c an 20 = -1) ∧ (gcN S j c < rem + 1 → fY (gsN S) (fun an c => plG S L m rem (fun o => if o = i then c else pl o) (i + 1) (c + 1) an) j c an = an) ∧ (¬ an 20 = -1 → ¬ fY (gsN S) (fun an c => plG S L m rem (fun o => if o = i then c else pl o) (i + 1) (c + 1) an) j c an 20 = -1) := by
      intro j
      induction j with
      | zero => intro c an hc; exact ⟨fun q => absurd q (by show ¬ rem + 1 ≤ 0; omega), fun _ => rfl, fun q => q⟩
      | succ j ih =>
        intro c an hc
        rw [fY, gcN]
        have hq := plG_q rem (fun o => if o = i then c else pl o) (i + 1) (c + 1) an (by omega)
        rw [show 100 - (c + 1) = j by omega] at hq
        by_cases g : gsN S c
        · rw [if_pos g, if_pos g]
          obtain ⟨h1, h2, h3⟩ := ih (c + 1) (plG S L m rem (fun o => if o = i then c else pl o) (i + 1) (c + 1) an) (by omega)
          refine ⟨fun q => h3 (hq.1 (by omega)), fun q => ?_, fun q => h3 (hq.2.2 q)⟩
          rw [h2 (by omega), hq.2.1 (by omega)]
        · rw [if_neg g, if_neg g]
          obtain ⟨h1, h2, h3⟩ := ih (c + 1) an (by omega)
          exact ⟨fun q => h1 (by omega), fun q => h2 (by omega), h3⟩
    exact key (100 - fr) fr an (by omega)
theorem gc_cnt (hB : Bd S) : ∀ j c, c + j = 100 → cnt1 (fun c => grS S (nI c)) c + gcN S j c = cnt1 (fun c => grS S (nI c)) 100
  | 0, c, h => by rw [show c = 100 by omega]; rfl
  | j + 1, c, h => by
    rw [gcN, ← gc_cnt hB j (c + 1) (by omega), cnt1]
    have := gr_gs hB (c := c) (by omega)
    by_cases q : gsN S c
    · rw [if_pos q, if_pos (this.mpr q)]; omega
    · rw [if_neg q, if_neg (fun r => q (this.mp r))]; omega
end Mzs
