-- the reference: the image, looks, the tape
set_option maxRecDepth 100000
set_option maxHeartbeats 4000000
section Mes
variable {G : Gam} {d n z tl : Nat} {f f0 : Mf} {I W : Nat → Int32} {A : Nat → Nat → Int32} {s : Sc} {S S' : Sta} {bs gn : Int32} {L : Lw} {tb : Nat → Nat} {fk fp : Int32} {kp : Option (Sta × Lw)}
/-- how the reference's image ends -/
def RImR (S : Sta) (L : Lw) (tb : Nat → Nat) (tl : Nat) (fk fp : Int32) (kp : Option (Sta × Lw)) (n z : Nat) (f0 : Mf) (b : Int32) : Po := fun v n' z' f' =>
  if b = 0 then (match kp with | none => RX S L tb tl fk fp kp n z f0 0 v n' z' f' | some (S', L') => RX S' L' tb tl fk fp kp n z f0 1 v n' z' f') else RX S L tb tl fk fp (some (S, L)) n z f0 1 v n' z' f'
theorem t9_image (hG : Ok G) (h : RM S L tb tl fk fp kp I W A s) {b : Int32} (hb : b = 0 ∨ b = 1) : Tr G d 210 [.ref 31, .int b] n z (mM f0 I W A s) (RImR S L tb tl fk fp kp n z f0 b) := by
  refine Tr.of2 (ls0 := [.ref 31, .int b, dead]) hG mo_X9_image (Nat.le_of_ble_eq_true rfl) rfl ?_
  intro X hi hd hXn hXz hXf hQ
  have e36 : ∀ a, upA A 33 a 36 = A 36 := fun a => if_neg (by decide)
  have e33 : ∀ a, upA A 33 a 33 = a := fun a => if_pos rfl
  rcases hb with rfl | rfl
  · unfold RImR at hQ
    simp only [if_true] at hQ
    cases kp with
    | none =>
      have h2 : I 2 = 0 := h.2.2.2
      refine wpC_sound (PC_ok hG _) (by rw [hi]; exact ok_X9_image) (hd := [15]) 400 _ _ _ _ _ _ ?_
      simp only [wp, stp, List.mem_cons, List.not_mem_nil, Nat.reduceEqDiff, or_false, or_self, false_or, or_true, true_or, Nat.reduceAdd, ↓reduceIte, List.getElem?_cons_zero, List.getElem?_cons_succ, nthV, List.set_cons_zero, List.set_cons_succ, noL, popA, catS, Value.category, List.length_cons, List.length_nil, Nat.reduceLT, Nat.reduceLeDiff, true_and, and_true, one0, zer1, imp_t, imp_f, ofN_nI, sdead, f20, f21, not_true_eq_false, upC_ap, upC_upC, retC, fitC, isRefT, Option.toList_some, Option.toList_none, List.cons_append, List.nil_append, Nat.lt_add_one, Nat.zero_lt_succ, Nat.le_refl, Nat.add_zero, Nat.zero_add, Nat.one_ne_zero, Nat.zero_ne_one, Nat.lt_irrefl, List.length_set, fa_X9_image, hi, hd, hQ, mr_X9_image, h2, true_implies, mM_31, mM_32, mM_33, mM_34, mM_35, mM_36, mM_37, mM_38, mM_39, mM_40, mM_41, mM_42, mM_43, mM_44, mM_45, mM_46, mM_47, mM_48, mu_31, mu_32, mu_33, mu_34, mu_35, mu_36, mu_37, mu_38, mu_39, mu_40, mu_41, mu_42, mu_43, mu_44, mu_45, mu_46, mu_47, mu_48, mO_len, mg_0, mg_1, mg_2, mg_3, mg_4, mg_5, mg_6, mg_7, mg_8, mg_9, mg_10, mg_11, mg_12, mg_13, mg_14, mg_15, mg_16, mg_17, mg_18, mg_19, mg_20, mg_21, mg_22, mg_23, mg_24, mg_25, mg_26, mg_27, mg_28, mg_29, mg_30, mg_31, mg_32, mg_33, mg_34, mg_35, ms_2, ms_8, ms_9, ms_10, ms_11, ms_12, ms_13, ms_14, ms_15, ms_16, ms_17, ms_18, ms_19, ms_22, ms_23, ms_32, ms_33, ms_34, ms_35, cN_0, vN_0, cN_1, vN_1, cN_2, vN_2, cN_3, vN_3, cN_4, vN_4, cN_5, vN_5, cN_6, vN_6, cN_7, vN_7, cN_8, vN_8, cN_9, vN_9, cN_190, vN_190, wpC, stpC, PC, PV, reduceCtorEq]
      exact RX.i rfl h
    | some q =>
      obtain ⟨S2, L2⟩ := q
      obtain ⟨h2, hv2, hr2, hl2⟩ : I 2 = 1 ∧ (VS S2 ∧ MG S2) ∧ WR S2 1 (-1) (A 33) ∧ WL (A 33) L2 := h.2.2.2
      have loop : ∀ j k W1, k + j = 1075 → (∀ i, i < k → W1 i = A 33 i) → V G X 15 [.ref 31, .int 0, .int (nI k)] [] n z (mM f0 I W1 A s) := by
        intro j
        induction j with
        | zero =>
          intro k W1 hk h1
          have : k = 1075 := by omega
          subst this
          refine wpC_sound (PC_ok hG _) (by rw [hi]; exact ok_X9_image) (hd := [15]) 400 _ _ _ _ _ _ ?_
          simp only [wp, stp, List.mem_cons, List.not_mem_nil, Nat.reduceEqDiff, or_false, or_self, false_or, or_true, true_or, Nat.reduceAdd, ↓reduceIte, List.getElem?_cons_zero, List.getElem?_cons_succ, nthV, List.set_cons_zero, List.set_cons_succ, noL, popA, catS, Value.category, List.length_cons, List.length_nil, Nat.reduceLT, Nat.reduceLeDiff, true_and, and_true, one0, zer1, imp_t, imp_f, ofN_nI, sdead, f20, f21, not_true_eq_false, upC_ap, upC_upC, retC, fitC, isRefT, Option.toList_some, Option.toList_none, List.cons_append, List.nil_append, Nat.lt_add_one, Nat.zero_lt_succ, Nat.le_refl, Nat.add_zero, Nat.zero_add, Nat.one_ne_zero, Nat.zero_ne_one, Nat.lt_irrefl, List.length_set, fa_X9_image, hi, hd, hQ, mr_X9_image, mM_31, mM_32, mM_33, mM_34, mM_35, mM_36, mM_37, mM_38, mM_39, mM_40, mM_41, mM_42, mM_43, mM_44, mM_45, mM_46, mM_47, mM_48, mu_31, mu_32, mu_33, mu_34, mu_35, mu_36, mu_37, mu_38, mu_39, mu_40, mu_41, mu_42, mu_43, mu_44, mu_45, mu_46, mu_47, mu_48, mO_len, mg_0, mg_1, mg_2, mg_3, mg_4, mg_5, mg_6, mg_7, mg_8, mg_9, mg_10, mg_11, mg_12, mg_13, mg_14, mg_15, mg_16, mg_17, mg_18, mg_19, mg_20, mg_21, mg_22, mg_23, mg_24, mg_25, mg_26, mg_27, mg_28, mg_29, mg_30, mg_31, mg_32, mg_33, mg_34, mg_35, ms_2, ms_8, ms_9, ms_10, ms_11, ms_12, ms_13, ms_14, ms_15, ms_16, ms_17, ms_18, ms_19, ms_22, ms_23, ms_32, ms_33, ms_34, ms_35, cN_0, vN_0, cN_1, vN_1, cN_2, vN_2, cN_3, vN_3, cN_4, vN_4, cN_5, vN_5, cN_6, vN_6, cN_7, vN_7, cN_8, vN_8, cN_9, vN_9, cN_190, vN_190, wpC, stpC, PC, PV, reduceCtorEq]
          try simp only [m1f]
          try simp (disch := omega) only [nmod, nI_leI, nI_ltI, nI_eq, nI_clamp, vin_nI, nI_1, fa_lit, nI_add, nI_rm3, nI_rm2, pk_rem, pk_mul, pk_sub, pk_div, nI_eM, nI_Me, nI_pM, nI_pMz, nI_pM0, M1_lt, M1_le, nI_ltM, nI_leM, i8_nI, true_and, and_true, false_implies, true_implies, not_false_eq_true, not_true_eq_false, ne_eq, implies_true, Nat.not_lt_zero, Nat.zero_le, ite_min, max0, Nat.reduceLT, Nat.reduceLeDiff, Nat.reduceEqDiff, Nat.reduceAdd, Nat.reduceMul, Nat.add_zero, Nat.zero_add]
          try simp only [m1u]
          refine RX.i rfl ⟨⟨hv2, hr2.cong hv2.1.1.1 (fun i hi => h1 i (by omega)), hl2.cong2 (fun i a b => h1 i b), Or.inl rfl, h.1.2.2.2.2⟩, ⟨h.2.1.1, h.2.1.2⟩, h.2.2.1, ⟨rfl, hv2, hr2, hl2⟩⟩
        | succ j ih =>
          intro k W1 hk h1
          have hk1 : ¬ 1075 ≤ k := by omega
          refine wpC_sound (PC_ok hG _) (by rw [hi]; exact ok_X9_image) (hd := [15]) 400 _ _ _ _ _ _ ?_
          simp only [wp, stp, List.mem_cons, List.not_mem_nil, Nat.reduceEqDiff, or_false, or_self, false_or, or_true, true_or, Nat.reduceAdd, ↓reduceIte, List.getElem?_cons_zero, List.getElem?_cons_succ, nthV, List.set_cons_zero, List.set_cons_succ, noL, popA, catS, Value.category, List.length_cons, List.length_nil, Nat.reduceLT, Nat.reduceLeDiff, true_and, and_true, one0, zer1, imp_t, imp_f, ofN_nI, sdead, f20, f21, not_true_eq_false, upC_ap, upC_upC, retC, fitC, isRefT, Option.toList_some, Option.toList_none, List.cons_append, List.nil_append, Nat.lt_add_one, Nat.zero_lt_succ, Nat.le_refl, Nat.add_zero, Nat.zero_add, Nat.one_ne_zero, Nat.zero_ne_one, Nat.lt_irrefl, List.length_set, fa_X9_image, hi, hd, hQ, mr_X9_image, hk1, mM_31, mM_32, mM_33, mM_34, mM_35, mM_36, mM_37, mM_38, mM_39, mM_40, mM_41, mM_42, mM_43, mM_44, mM_45, mM_46, mM_47, mM_48, mu_31, mu_32, mu_33, mu_34, mu_35, mu_36, mu_37, mu_38, mu_39, mu_40, mu_41, mu_42, mu_43, mu_44, mu_45, mu_46, mu_47, mu_48, mO_len, mg_0, mg_1, mg_2, mg_3, mg_4, mg_5, mg_6, mg_7, mg_8, mg_9, mg_10, mg_11, mg_12, mg_13, mg_14, mg_15, mg_16, mg_17, mg_18, mg_19, mg_20, mg_21, mg_22, mg_23, mg_24, mg_25, mg_26, mg_27, mg_28, mg_29, mg_30, mg_31, mg_32, mg_33, mg_34, mg_35, ms_2, ms_8, ms_9, ms_10, ms_11, ms_12, ms_13, ms_14, ms_15, ms_16, ms_17, ms_18, ms_19, ms_22, ms_23, ms_32, ms_33, ms_34, ms_35, cN_0, vN_0, cN_1, vN_1, cN_2, vN_2, cN_3, vN_3, cN_4, vN_4, cN_5, vN_5, cN_6, vN_6, cN_7, vN_7, cN_8, vN_8, cN_9, vN_9, cN_190, vN_190, wpC, stpC, PC, PV, reduceCtorEq]
          try simp only [m1f]
          try simp (disch := omega) only [nmod, nI_leI, nI_ltI, nI_eq, nI_clamp, vin_nI, nI_1, fa_lit, nI_add, nI_rm3, nI_rm2, pk_rem, pk_mul, pk_sub, pk_div, nI_eM, nI_Me, nI_pM, nI_pMz, nI_pM0, M1_lt, M1_le, nI_ltM, nI_leM, i8_nI, true_and, and_true, false_implies, true_implies, not_false_eq_true, not_true_eq_false, ne_eq, implies_true, Nat.not_lt_zero, Nat.zero_le, ite_min, max0, Nat.reduceLT, Nat.reduceLeDiff, Nat.reduceEqDiff, Nat.reduceAdd, Nat.reduceMul, Nat.add_zero, Nat.zero_add, hk1]
          try simp only [m1u]
          refine ⟨by omega, by omega, ih _ _ (by omega) (fun i hi => ?_)⟩
          rw [upd_ap]
          by_cases q : i = k
          · rw [if_pos q, q]
          · rw [if_neg q]; exact h1 i (by omega)
      refine wpC_sound (PC_ok hG _) (by rw [hi]; exact ok_X9_image) (hd := [15]) 400 _ _ _ _ _ _ ?_
      simp only [wp, stp, List.mem_cons, List.not_mem_nil, Nat.reduceEqDiff, or_false, or_self, false_or, or_true, true_or, Nat.reduceAdd, ↓reduceIte, List.getElem?_cons_zero, List.getElem?_cons_succ, nthV, List.set_cons_zero, List.set_cons_succ, noL, popA, catS, Value.category, List.length_cons, List.length_nil, Nat.reduceLT, Nat.reduceLeDiff, true_and, and_true, one0, zer1, imp_t, imp_f, ofN_nI, sdead, f20, f21, not_true_eq_false, upC_ap, upC_upC, retC, fitC, isRefT, Option.toList_some, Option.toList_none, List.cons_append, List.nil_append, Nat.lt_add_one, Nat.zero_lt_succ, Nat.le_refl, Nat.add_zero, Nat.zero_add, Nat.one_ne_zero, Nat.zero_ne_one, Nat.lt_irrefl, List.length_set, fa_X9_image, hi, hd, hQ, mr_X9_image, h2, mM_31, mM_32, mM_33, mM_34, mM_35, mM_36, mM_37, mM_38, mM_39, mM_40, mM_41, mM_42, mM_43, mM_44, mM_45, mM_46, mM_47, mM_48, mu_31, mu_32, mu_33, mu_34, mu_35, mu_36, mu_37, mu_38, mu_39, mu_40, mu_41, mu_42, mu_43, mu_44, mu_45, mu_46, mu_47, mu_48, mO_len, mg_0, mg_1, mg_2, mg_3, mg_4, mg_5, mg_6, mg_7, mg_8, mg_9, mg_10, mg_11, mg_12, mg_13, mg_14, mg_15, mg_16, mg_17, mg_18, mg_19, mg_20, mg_21, mg_22, mg_23, mg_24, mg_25, mg_26, mg_27, mg_28, mg_29, mg_30, mg_31, mg_32, mg_33, mg_34, mg_35, ms_2, ms_8, ms_9, ms_10, ms_11, ms_12, ms_13, ms_14, ms_15, ms_16, ms_17, ms_18, ms_19, ms_22, ms_23, ms_32, ms_33, ms_34, ms_35, cN_0, vN_0, cN_1, vN_1, cN_2, vN_2, cN_3, vN_3, cN_4, vN_4, cN_5, vN_5, cN_6, vN_6, cN_7, vN_7, cN_8, vN_8, cN_9, vN_9, cN_190, vN_190, wpC, stpC, PC, PV, reduceCtorEq]
      try simp only [m1f]
      try simp (disch := omega) only [nmod, nI_leI, nI_ltI, nI_eq, nI_clamp, vin_nI, nI_1, fa_lit, nI_add, nI_rm3, nI_rm2, pk_rem, pk_mul, pk_sub, pk_div, nI_eM, nI_Me, nI_pM, nI_pMz, nI_pM0, M1_lt, M1_le, nI_ltM, nI_leM, i8_nI, true_and, and_true, false_implies, true_implies, not_false_eq_true, not_true_eq_false, ne_eq, implies_true, Nat.not_lt_zero, Nat.zero_le, ite_min, max0, Nat.reduceLT, Nat.reduceLeDiff, Nat.reduceEqDiff, Nat.reduceAdd, Nat.reduceMul, Nat.add_zero, Nat.zero_add, h2]
      try simp only [m1u]
      exact loop 1075 0 W (by omega) (fun i hi => absurd hi (by omega))
  · unfold RImR at hQ
    simp only [show ¬ (1 : Int32) = 0 by decide, if_false] at hQ
    have loop : ∀ j k a, k + j = 1075 → (∀ i, i < k → a i = W i) → V G X 15 [.ref 31, .int 1, .int (nI k)] [] n z (mM f0 I W (upA A 33 a) s) := by
      intro j
      induction j with
      | zero =>
        intro k a hk h1
        have : k = 1075 := by omega
        subst this
        refine wpC_sound (PC_ok hG _) (by rw [hi]; exact ok_X9_image) (hd := [15]) 400 _ _ _ _ _ _ ?_
        simp only [wp, stp, List.mem_cons, List.not_mem_nil, Nat.reduceEqDiff, or_false, or_self, false_or, or_true, true_or, Nat.reduceAdd, ↓reduceIte, List.getElem?_cons_zero, List.getElem?_cons_succ, nthV, List.set_cons_zero, List.set_cons_succ, noL, popA, catS, Value.category, List.length_cons, List.length_nil, Nat.reduceLT, Nat.reduceLeDiff, true_and, and_true, one0, zer1, imp_t, imp_f, ofN_nI, sdead, f20, f21, not_true_eq_false, upC_ap, upC_upC, retC, fitC, isRefT, Option.toList_some, Option.toList_none, List.cons_append, List.nil_append, Nat.lt_add_one, Nat.zero_lt_succ, Nat.le_refl, Nat.add_zero, Nat.zero_add, Nat.one_ne_zero, Nat.zero_ne_one, Nat.lt_irrefl, List.length_set, fa_X9_image, hi, hd, hQ, mr_X9_image, mM_31, mM_32, mM_33, mM_34, mM_35, mM_36, mM_37, mM_38, mM_39, mM_40, mM_41, mM_42, mM_43, mM_44, mM_45, mM_46, mM_47, mM_48, mu_31, mu_32, mu_33, mu_34, mu_35, mu_36, mu_37, mu_38, mu_39, mu_40, mu_41, mu_42, mu_43, mu_44, mu_45, mu_46, mu_47, mu_48, mO_len, mg_0, mg_1, mg_2, mg_3, mg_4, mg_5, mg_6, mg_7, mg_8, mg_9, mg_10, mg_11, mg_12, mg_13, mg_14, mg_15, mg_16, mg_17, mg_18, mg_19, mg_20, mg_21, mg_22, mg_23, mg_24, mg_25, mg_26, mg_27, mg_28, mg_29, mg_30, mg_31, mg_32, mg_33, mg_34, mg_35, ms_2, ms_8, ms_9, ms_10, ms_11, ms_12, ms_13, ms_14, ms_15, ms_16, ms_17, ms_18, ms_19, ms_22, ms_23, ms_32, ms_33, ms_34, ms_35, cN_0, vN_0, cN_1, vN_1, cN_2, vN_2, cN_3, vN_3, cN_4, vN_4, cN_5, vN_5, cN_6, vN_6, cN_7, vN_7, cN_8, vN_8, cN_9, vN_9, cN_190, vN_190, wpC, stpC, PC, PV, reduceCtorEq]
        try simp only [m1f]
        try simp (disch := omega) only [nmod, nI_leI, nI_ltI, nI_eq, nI_clamp, vin_nI, nI_1, fa_lit, nI_add, nI_rm3, nI_rm2, pk_rem, pk_mul, pk_sub, pk_div, nI_eM, nI_Me, nI_pM, nI_pMz, nI_pM0, M1_lt, M1_le, nI_ltM, nI_leM, i8_nI, true_and, and_true, false_implies, true_implies, not_false_eq_true, not_true_eq_false, ne_eq, implies_true, Nat.not_lt_zero, Nat.zero_le, ite_min, max0, Nat.reduceLT, Nat.reduceLeDiff, Nat.reduceEqDiff, Nat.reduceAdd, Nat.reduceMul, Nat.add_zero, Nat.zero_add]
        try simp only [m1u]
        refine RX.i rfl ⟨⟨h.1.1, h.1.2.1, h.1.2.2.1, h.1.2.2.2.1, h.1.2.2.2.2⟩, ⟨h.2.1.1, h.2.1.2.1, fun j hj => by rw [e36]; exact h.2.1.2.2 j hj⟩, h.2.2.1, ⟨rfl, h.1.1, by rw [e33]; exact h.1.2.1.cong h.1.1.1.1.1 (fun i hi => h1 i (by omega)), by rw [e33]; exact h.1.2.2.1.cong2 (fun i a b => h1 i b)⟩⟩
      | succ j ih =>
        intro k a hk h1
        have hk1 : ¬ 1075 ≤ k := by omega
        have eu : ∀ b, upA (upA A 33 a) 33 b = upA A 33 b := fun b => by
          funext i; unfold upA; by_cases q : i = 33
          · rw [if_pos q, if_pos q]
          · rw [if_neg q, if_neg q, if_neg q]
        refine wpC_sound (PC_ok hG _) (by rw [hi]; exact ok_X9_image) (hd := [15]) 400 _ _ _ _ _ _ ?_
        simp only [wp, stp, List.mem_cons, List.not_mem_nil, Nat.reduceEqDiff, or_false, or_self, false_or, or_true, true_or, Nat.reduceAdd, ↓reduceIte, List.getElem?_cons_zero, List.getElem?_cons_succ, nthV, List.set_cons_zero, List.set_cons_succ, noL, popA, catS, Value.category, List.length_cons, List.length_nil, Nat.reduceLT, Nat.reduceLeDiff, true_and, and_true, one0, zer1, imp_t, imp_f, ofN_nI, sdead, f20, f21, not_true_eq_false, upC_ap, upC_upC, retC, fitC, isRefT, Option.toList_some, Option.toList_none, List.cons_append, List.nil_append, Nat.lt_add_one, Nat.zero_lt_succ, Nat.le_refl, Nat.add_zero, Nat.zero_add, Nat.one_ne_zero, Nat.zero_ne_one, Nat.lt_irrefl, List.length_set, fa_X9_image, hi, hd, hQ, mr_X9_image, hk1, eu, mM_31, mM_32, mM_33, mM_34, mM_35, mM_36, mM_37, mM_38, mM_39, mM_40, mM_41, mM_42, mM_43, mM_44, mM_45, mM_46, mM_47, mM_48, mu_31, mu_32, mu_33, mu_34, mu_35, mu_36, mu_37, mu_38, mu_39, mu_40, mu_41, mu_42, mu_43, mu_44, mu_45, mu_46, mu_47, mu_48, mO_len, mg_0, mg_1, mg_2, mg_3, mg_4, mg_5, mg_6, mg_7, mg_8, mg_9, mg_10, mg_11, mg_12, mg_13, mg_14, mg_15, mg_16, mg_17, mg_18, mg_19, mg_20, mg_21, mg_22, mg_23, mg_24, mg_25, mg_26, mg_27, mg_28, mg_29, mg_30, mg_31, mg_32, mg_33, mg_34, mg_35, ms_2, ms_8, ms_9, ms_10, ms_11, ms_12, ms_13, ms_14, ms_15, ms_16, ms_17, ms_18, ms_19, ms_22, ms_23, ms_32, ms_33, ms_34, ms_35, cN_0, vN_0, cN_1, vN_1, cN_2, vN_2, cN_3, vN_3, cN_4, vN_4, cN_5, vN_5, cN_6, vN_6, cN_7, vN_7, cN_8, vN_8, cN_9, vN_9, cN_190, vN_190, wpC, stpC, PC, PV, reduceCtorEq]
        try simp only [m1f]
        try simp (disch := omega) only [nmod, nI_leI, nI_ltI, nI_eq, nI_clamp, vin_nI, nI_1, fa_lit, nI_add, nI_rm3, nI_rm2, pk_rem, pk_mul, pk_sub, pk_div, nI_eM, nI_Me, nI_pM, nI_pMz, nI_pM0, M1_lt, M1_le, nI_ltM, nI_leM, i8_nI, true_and, and_true, false_implies, true_implies, not_false_eq_true, not_true_eq_false, ne_eq, implies_true, Nat.not_lt_zero, Nat.zero_le, ite_min, max0, Nat.reduceLT, Nat.reduceLeDiff, Nat.reduceEqDiff, Nat.reduceAdd, Nat.reduceMul, Nat.add_zero, Nat.zero_add, hk1, eu]
        try simp only [m1u]
        refine ⟨by omega, by omega, ih _ _ (by omega) (fun i hi => ?_)⟩
        rw [upd_ap]
        by_cases q : i = k
        · rw [if_pos q, q]
        · rw [if_neg q, e33]; exact h1 i (by omega)
    have ei : upA A 33 (A 33) = A := by
      funext i; unfold upA; by_cases q : i = 33
      · rw [if_pos q, q]
      · rw [if_neg q]
    have := loop 1075 0 (A 33) (by omega) (fun i hi => absurd hi (by omega))
    rw [ei] at this
    refine wpC_sound (PC_ok hG _) (by rw [hi]; exact ok_X9_image) (hd := [15]) 400 _ _ _ _ _ _ ?_
    simp only [wp, stp, List.mem_cons, List.not_mem_nil, Nat.reduceEqDiff, or_false, or_self, false_or, or_true, true_or, Nat.reduceAdd, ↓reduceIte, List.getElem?_cons_zero, List.getElem?_cons_succ, nthV, List.set_cons_zero, List.set_cons_succ, noL, popA, catS, Value.category, List.length_cons, List.length_nil, Nat.reduceLT, Nat.reduceLeDiff, true_and, and_true, one0, zer1, imp_t, imp_f, ofN_nI, sdead, f20, f21, not_true_eq_false, upC_ap, upC_upC, retC, fitC, isRefT, Option.toList_some, Option.toList_none, List.cons_append, List.nil_append, Nat.lt_add_one, Nat.zero_lt_succ, Nat.le_refl, Nat.add_zero, Nat.zero_add, Nat.one_ne_zero, Nat.zero_ne_one, Nat.lt_irrefl, List.length_set, fa_X9_image, hi, hd, hQ, mr_X9_image, mM_31, mM_32, mM_33, mM_34, mM_35, mM_36, mM_37, mM_38, mM_39, mM_40, mM_41, mM_42, mM_43, mM_44, mM_45, mM_46, mM_47, mM_48, mu_31, mu_32, mu_33, mu_34, mu_35, mu_36, mu_37, mu_38, mu_39, mu_40, mu_41, mu_42, mu_43, mu_44, mu_45, mu_46, mu_47, mu_48, mO_len, mg_0, mg_1, mg_2, mg_3, mg_4, mg_5, mg_6, mg_7, mg_8, mg_9, mg_10, mg_11, mg_12, mg_13, mg_14, mg_15, mg_16, mg_17, mg_18, mg_19, mg_20, mg_21, mg_22, mg_23, mg_24, mg_25, mg_26, mg_27, mg_28, mg_29, mg_30, mg_31, mg_32, mg_33, mg_34, mg_35, ms_2, ms_8, ms_9, ms_10, ms_11, ms_12, ms_13, ms_14, ms_15, ms_16, ms_17, ms_18, ms_19, ms_22, ms_23, ms_32, ms_33, ms_34, ms_35, cN_0, vN_0, cN_1, vN_1, cN_2, vN_2, cN_3, vN_3, cN_4, vN_4, cN_5, vN_5, cN_6, vN_6, cN_7, vN_7, cN_8, vN_8, cN_9, vN_9, cN_190, vN_190, wpC, stpC, PC, PV, reduceCtorEq]
    try simp only [m1f]
    try simp (disch := omega) only [nmod, nI_leI, nI_ltI, nI_eq, nI_clamp, vin_nI, nI_1, fa_lit, nI_add, nI_rm3, nI_rm2, pk_rem, pk_mul, pk_sub, pk_div, nI_eM, nI_Me, nI_pM, nI_pMz, nI_pM0, M1_lt, M1_le, nI_ltM, nI_leM, i8_nI, true_and, and_true, false_implies, true_implies, not_false_eq_true, not_true_eq_false, ne_eq, implies_true, Nat.not_lt_zero, Nat.zero_le, ite_min, max0, Nat.reduceLT, Nat.reduceLeDiff, Nat.reduceEqDiff, Nat.reduceAdd, Nat.reduceMul, Nat.add_zero, Nat.zero_add]
    try simp only [m1u]
    exact this
theorem t9_look (hG : Ok G) (hd1 : 1 ≤ d) (h : RM S L tb tl fk fp kp I W A s) (w : Int32) : Tr G d 211 [.ref 31, .int w] n z (mM f0 I W A s) (RX S L tb tl fk fp kp n z f0 (lokR S L w)) := by
  have hB := h.1.1.1.1.1
  obtain ⟨b1, b2⟩ := hB.1
  obtain ⟨w0, w1, w2, w3, w4, w5, w6, w7, w8, w9⟩ := h.1.2.1.ten
  obtain ⟨ls, ks, vs, fr, md, tt, T, ⟨l1, l2⟩, ⟨l3, l4⟩, -⟩ := id h.1.2.2.1
  rw [← l3] at l1
  refine Tr.of2 (ls0 := [.ref 31, .int w]) hG mo_X9_look (Nat.le_of_ble_eq_true rfl) rfl ?_
  intro X hi hd hXn hXz hXf hQ
  refine wpC_sound (PC_ok hG _) (by rw [hi]; exact ok_X9_look) (hd := []) 400 _ _ _ _ _ _ ?_
  simp only [wp, stp, List.mem_cons, List.not_mem_nil, Nat.reduceEqDiff, or_false, or_self, false_or, or_true, true_or, Nat.reduceAdd, ↓reduceIte, List.getElem?_cons_zero, List.getElem?_cons_succ, nthV, List.set_cons_zero, List.set_cons_succ, noL, popA, catS, Value.category, List.length_cons, List.length_nil, Nat.reduceLT, Nat.reduceLeDiff, true_and, and_true, one0, zer1, imp_t, imp_f, ofN_nI, sdead, f20, f21, not_true_eq_false, upC_ap, upC_upC, retC, fitC, isRefT, Option.toList_some, Option.toList_none, List.cons_append, List.nil_append, Nat.lt_add_one, Nat.zero_lt_succ, Nat.le_refl, Nat.add_zero, Nat.zero_add, Nat.one_ne_zero, Nat.zero_ne_one, Nat.lt_irrefl, List.length_set, fa_X9_look, hi, hd, hQ, mr_X9_look, w0, w1, w2, w3, w4, w5, w6, w7, w8, w9, l1, bI_0, tg_X9_look, swt, lks, Int.reduceAdd, mM_31, mM_32, mM_33, mM_34, mM_35, mM_36, mM_37, mM_38, mM_39, mM_40, mM_41, mM_42, mM_43, mM_44, mM_45, mM_46, mM_47, mM_48, mu_31, mu_32, mu_33, mu_34, mu_35, mu_36, mu_37, mu_38, mu_39, mu_40, mu_41, mu_42, mu_43, mu_44, mu_45, mu_46, mu_47, mu_48, mO_len, mg_0, mg_1, mg_2, mg_3, mg_4, mg_5, mg_6, mg_7, mg_8, mg_9, mg_10, mg_11, mg_12, mg_13, mg_14, mg_15, mg_16, mg_17, mg_18, mg_19, mg_20, mg_21, mg_22, mg_23, mg_24, mg_25, mg_26, mg_27, mg_28, mg_29, mg_30, mg_31, mg_32, mg_33, mg_34, mg_35, ms_2, ms_8, ms_9, ms_10, ms_11, ms_12, ms_13, ms_14, ms_15, ms_16, ms_17, ms_18, ms_19, ms_22, ms_23, ms_32, ms_33, ms_34, ms_35, cN_0, vN_0, cN_1, vN_1, cN_2, vN_2, cN_3, vN_3, cN_4, vN_4, cN_5, vN_5, cN_6, vN_6, cN_7, vN_7, cN_8, vN_8, cN_9, vN_9, cN_190, vN_190, wpC, stpC, PC, PV, reduceCtorEq]
  refine ⟨fun q => ⟨by omega, fun q1 => ?_, fun q1 => ?_⟩, fun q => RX.i (by unfold lokR; simp [q]) h, fun q => RX.i (by unfold lokR; simp [q]) h, fun q => RX.i (by unfold lokR; simp [q]) h, fun q => RX.i (by unfold lokR; simp [q]) h, fun q => RX.i (by unfold lokR; simp [q]) h, fun q => RX.i (by unfold lokR; simp [q]) h, fun q => RX.i (by unfold lokR; simp [q]) h, fun q => RX.i (by unfold lokR; simp [q]) h, fun q => RX.i (by unfold lokR; simp [q]) h, fun q => RX.i (by unfold lokR; simp [q]) h, fun q => RX.i (by unfold lokR; simp [q]) h⟩
  all_goals
    have e : lokR S L w = tolR S w := by
      unfold lokR
      rw [if_neg (by omega), if_neg (by omega), if_neg (by omega), if_neg (by omega), if_neg (by omega), if_neg (by omega), if_neg (by omega), if_neg (by omega), if_neg (by omega), if_neg (by omega), if_neg (by omega)]
    rw [e]
  · refine RX.i ?_ h
    unfold tolR
    rw [if_neg]
    rintro ⟨⟨r1, r2⟩, r3⟩
    refine q1 ⟨r1, ?_⟩
    obtain ⟨k, hk, ek⟩ := tS_nI hB r3
    have ew : w = nI (k + 20) := by
      have : w = (w - 20) + 20 := by rw [Int32.sub_add_cancel]
      rw [this, ek]; exact nI_add _ _
    rw [b1, show (19 : Int32) = nI 19 from rfl, nI_add, ew, nI_ltI (by omega) (by omega)]
    omega
  · have q1 := Decidable.not_not.mp q1
    have h0 : ¬ w < 0 := fun r => q1.1 (by
      rw [Int32.lt_iff_toInt_lt] at r ⊢
      have : (20 : Int32).toInt = 20 := rfl
      have : (0 : Int32).toInt = 0 := rfl
      omega)
    obtain ⟨k, hk, rfl⟩ := nn_nI h0
    have r1 := q1.1
    have r2 := q1.2
    rw [show (20 : Int32) = nI 20 from rfl, nI_ltI (by omega) (by omega)] at r1
    rw [b1, show (19 : Int32) = nI 19 from rfl, nI_add, nI_ltI (by omega) (by omega)] at r2
    have ew : nI k - 20 = nI (k - 20) := pk_sub (a := k) (b := 20) (by omega)
    have hts : tS S (nI k - 20) := by
      rw [ew]
      refine ⟨nI_pos (by omega), ?_⟩
      rw [b1, nI_leI (by omega) (by omega)]; omega
    have hcl : (120 + 6 * (nI k - 20) + 5).toNatClampNeg = 120 + 6 * (k - 20) + 5 := by
      rw [ew, show (120 : Int32) = nI 120 from rfl, show (6 : Int32) = nI 6 from rfl, show (5 : Int32) = nI 5 from rfl, pk_mul, nI_add, nI_add, nI_clamp (by omega)]
    refine ⟨by omega, ?_, RX.i ?_ h⟩
    · rw [ew, show (120 : Int32) = nI 120 from rfl, show (6 : Int32) = nI 6 from rfl, show (5 : Int32) = nI 5 from rfl, pk_mul, nI_add, nI_add, vin_nI (by omega)]; omega
    · unfold tolR
      rw [if_pos ⟨⟨q1.1, by rw [show (30 : Int32) = nI 30 from rfl, nI_leI (by omega) (by omega)]; omega⟩, hts⟩, hcl, ew, nI_clamp (by omega)]
      exact h.1.2.1.2.2.1 5 (k - 20) (by omega) (by omega) (by omega)
/-- byte by byte -/
theorem ssh_by (x : BitVec 32) (s : Nat) (hs : s ≤ 24) : (x.sshiftRight s &&& 255#32).toNat = x.toNat / 2 ^ s % 256 := by
  have : x.sshiftRight s &&& 255#32 = BitVec.ofNat 32 (x.toNat / 2 ^ s % 256) := by
    apply BitVec.eq_of_getLsbD_eq
    intro i hi
    rw [BitVec.getLsbD_and, BitVec.getLsbD_sshiftRight, BitVec.getLsbD_ofNat, BitVec.getLsbD_ofNat, show (256 : Nat) = 2 ^ 8 from rfl, Nat.testBit_mod_two_pow, Nat.testBit_div_two_pow, show (255 : Nat) = 2 ^ 8 - 1 from rfl, Nat.testBit_two_pow_sub_one]
    by_cases h : i < 8
    · simp [hi, h, show s + i < 32 by omega, show ¬ 32 ≤ i by omega]
      show x.toNat.testBit (s + i) = _
      rw [Nat.add_comm]
    · simp [h]
  rw [this, BitVec.toNat_ofNat]
  omega
theorem shr_0 (x : Int32) : x >>> ((24 : Int32) &&& 31) &&& 255 = nI (byN x 0) := by
  apply Int32.toBitVec_inj.mp
  apply BitVec.eq_of_toNat_eq
  show (x.toBitVec.sshiftRight 24 &&& 255#32).toNat = (BitVec.ofNat 32 (byN x 0)).toNat
  rw [ssh_by _ _ (by omega), BitVec.toNat_ofNat]
  have := byN_lt x 0
  have e : x.toBitVec.toNat / 2 ^ 24 % 256 = byN x 0 := rfl
  rw [e, Nat.mod_eq_of_lt (by omega)]
theorem shr_1 (x : Int32) : x >>> ((16 : Int32) &&& 31) &&& 255 = nI (byN x 1) := by
  apply Int32.toBitVec_inj.mp
  apply BitVec.eq_of_toNat_eq
  show (x.toBitVec.sshiftRight 16 &&& 255#32).toNat = (BitVec.ofNat 32 (byN x 1)).toNat
  rw [ssh_by _ _ (by omega), BitVec.toNat_ofNat]
  have := byN_lt x 1
  have e : x.toBitVec.toNat / 2 ^ 16 % 256 = byN x 1 := rfl
  rw [e, Nat.mod_eq_of_lt (by omega)]
theorem shr_2 (x : Int32) : x >>> ((8 : Int32) &&& 31) &&& 255 = nI (byN x 2) := by
  apply Int32.toBitVec_inj.mp
  apply BitVec.eq_of_toNat_eq
  show (x.toBitVec.sshiftRight 8 &&& 255#32).toNat = (BitVec.ofNat 32 (byN x 2)).toNat
  rw [ssh_by _ _ (by omega), BitVec.toNat_ofNat]
  have := byN_lt x 2
  have e : x.toBitVec.toNat / 2 ^ 8 % 256 = byN x 2 := rfl
  rw [e, Nat.mod_eq_of_lt (by omega)]
theorem shr_3 (x : Int32) : x >>> ((0 : Int32) &&& 31) &&& 255 = nI (byN x 3) := by
  apply Int32.toBitVec_inj.mp
  apply BitVec.eq_of_toNat_eq
  show (x.toBitVec.sshiftRight 0 &&& 255#32).toNat = (BitVec.ofNat 32 (byN x 3)).toNat
  rw [ssh_by _ _ (by omega), BitVec.toNat_ofNat]
  have := byN_lt x 3
  have e : x.toBitVec.toNat / 2 ^ 0 % 256 = byN x 3 := rfl
  rw [e, Nat.mod_eq_of_lt (by omega)]
def selN (a b c e g : Int32) (k : Nat) : Int32 := if k < 4 then a else if k < 8 then b else if k < 12 then c else if k < 16 then e else g
theorem fdB_at (a b c e g : Int32) {k : Nat} (hk : k < 20) : fdB tb tl a b c e g (tl + k) = byN (selN a b c e g k) (k % 4) := by
  unfold fdB tp4 selN
  rcases (by omega : k < 4 ∨ (4 ≤ k ∧ k < 8) ∨ (8 ≤ k ∧ k < 12) ∨ (12 ≤ k ∧ k < 16) ∨ 16 ≤ k) with q | q | q | q | q
  · rw [if_neg (by omega), if_neg (by omega), if_neg (by omega), if_neg (by omega), if_pos (by omega), if_pos q, show tl + k - tl = k % 4 by omega]
  · rw [if_neg (by omega), if_neg (by omega), if_neg (by omega), if_pos (by omega), if_neg (by omega), if_pos (by omega), show tl + k - (tl + 4) = k % 4 by omega]
  · rw [if_neg (by omega), if_neg (by omega), if_pos (by omega), if_neg (by omega), if_neg (by omega), if_pos (by omega), show tl + k - (tl + 8) = k % 4 by omega]
  · rw [if_neg (by omega), if_pos (by omega), if_neg (by omega), if_neg (by omega), if_neg (by omega), if_pos (by omega), show tl + k - (tl + 12) = k % 4 by omega]
  · rw [if_pos (by omega), if_neg (by omega), if_neg (by omega), if_neg (by omega), if_neg (by omega), show tl + k - (tl + 16) = k % 4 by omega]
theorem fdB_lo (a b c e g : Int32) {j : Nat} (hj : j < tl) : fdB tb tl a b c e g j = tb j := by
  unfold fdB tp4
  rw [if_neg (by omega), if_neg (by omega), if_neg (by omega), if_neg (by omega), if_neg (by omega)]
theorem t9_feed (hG : Ok G) (h : RM S L tb tl fk fp kp I W A s) (a b c e g : Int32) : Tr G d 146 [.ref 31, .int a, .int b, .int c, .int e, .int g] n z (mM f0 I W A s) (fun v n' z' f' => if tl + 20 ≤ 400 then RX S L (fdB tb tl a b c e g) (tl + 20) fk fp kp n z f0 (nI (tl + 20)) v n' z' f' else RX S L tb tl fk fp kp n z f0 (-1) v n' z' f') := by
  obtain ⟨h10, hl, hT⟩ := h.2.1
  refine Tr.of2 (ls0 := [.ref 31, .int a, .int b, .int c, .int e, .int g, dead, dead]) hG mo_X9_feed (Nat.le_of_ble_eq_true rfl) rfl ?_
  intro X hi hd hXn hXz hXf hQ
  by_cases hp : tl + 20 ≤ 400
  · simp only [if_pos hp] at hQ
    have loop : ∀ j k t I' u7, k + j = 20 → I' 10 = nI (tl + k) → (∀ i, ¬ i = 10 → I' i = I i) → (∀ i, i < tl + k → fdB tb tl a b c e g i < 256 ∧ t i = nI (fdB tb tl a b c e g i)) → V G X 18 [.ref 31, .int a, .int b, .int c, .int e, .int g, .int (nI k), u7] [] n z (mM f0 I' W (upA A 36 t) s) := by
      intro j
      induction j with
      | zero =>
        intro k t I' u7 hk h1 h2 h3
        have : k = 20 := by omega
        subst this
        refine wpC_sound (PC_ok hG _) (by rw [hi]; exact ok_X9_feed) (hd := [18]) 400 _ _ _ _ _ _ ?_
        simp only [wp, stp, List.mem_cons, List.not_mem_nil, Nat.reduceEqDiff, or_false, or_self, false_or, or_true, true_or, Nat.reduceAdd, ↓reduceIte, List.getElem?_cons_zero, List.getElem?_cons_succ, nthV, List.set_cons_zero, List.set_cons_succ, noL, popA, catS, Value.category, List.length_cons, List.length_nil, Nat.reduceLT, Nat.reduceLeDiff, true_and, and_true, one0, zer1, imp_t, imp_f, ofN_nI, sdead, f20, f21, not_true_eq_false, upC_ap, upC_upC, retC, fitC, isRefT, Option.toList_some, Option.toList_none, List.cons_append, List.nil_append, Nat.lt_add_one, Nat.zero_lt_succ, Nat.le_refl, Nat.add_zero, Nat.zero_add, Nat.one_ne_zero, Nat.zero_ne_one, Nat.lt_irrefl, List.length_set, fa_X9_feed, hi, hd, hQ, mr_X9_feed, h1, mM_31, mM_32, mM_33, mM_34, mM_35, mM_36, mM_37, mM_38, mM_39, mM_40, mM_41, mM_42, mM_43, mM_44, mM_45, mM_46, mM_47, mM_48, mu_31, mu_32, mu_33, mu_34, mu_35, mu_36, mu_37, mu_38, mu_39, mu_40, mu_41, mu_42, mu_43, mu_44, mu_45, mu_46, mu_47, mu_48, mO_len, mg_0, mg_1, mg_2, mg_3, mg_4, mg_5, mg_6, mg_7, mg_8, mg_9, mg_10, mg_11, mg_12, mg_13, mg_14, mg_15, mg_16, mg_17, mg_18, mg_19, mg_20, mg_21, mg_22, mg_23, mg_24, mg_25, mg_26, mg_27, mg_28, mg_29, mg_30, mg_31, mg_32, mg_33, mg_34, mg_35, ms_2, ms_8, ms_9, ms_10, ms_11, ms_12, ms_13, ms_14, ms_15, ms_16, ms_17, ms_18, ms_19, ms_22, ms_23, ms_32, ms_33, ms_34, ms_35, cN_0, vN_0, cN_1, vN_1, cN_2, vN_2, cN_3, vN_3, cN_4, vN_4, cN_5, vN_5, cN_6, vN_6, cN_7, vN_7, cN_8, vN_8, cN_9, vN_9, cN_190, vN_190, wpC, stpC, PC, PV, reduceCtorEq]
        try simp only [m1f]
        try simp (disch := omega) only [nmod, nI_leI, nI_ltI, nI_eq, nI_clamp, vin_nI, nI_1, fa_lit, nI_add, nI_rm3, nI_rm2, pk_rem, pk_mul, pk_sub, pk_div, nI_eM, nI_Me, nI_pM, nI_pMz, nI_pM0, M1_lt, M1_le, nI_ltM, nI_leM, i8_nI, true_and, and_true, false_implies, true_implies, not_false_eq_true, not_true_eq_false, ne_eq, implies_true, Nat.not_lt_zero, Nat.zero_le, ite_min, max0, Nat.reduceLT, Nat.reduceLeDiff, Nat.reduceEqDiff, Nat.reduceAdd, Nat.reduceMul, Nat.add_zero, Nat.zero_add, h1]
        try simp only [m1u]
        refine RX.i rfl ⟨⟨h.1.1, h.1.2.1, h.1.2.2.1, h.1.2.2.2.1, (h2 23 (by omega)).trans h.1.2.2.2.2⟩, ⟨h1, hp, fun j hj => by rw [show upA A 36 t 36 = t from if_pos rfl]; exact h3 j hj⟩, ⟨(h2 17 (by omega)).trans h.2.2.1.1, (h2 19 (by omega)).trans h.2.2.1.2⟩, ?_⟩
        have := h.2.2.2
        unfold RKp at this ⊢
        split
        · rw [h2 2 (by omega)]; exact this
        · rw [h2 2 (by omega), show upA A 36 t 33 = A 33 from if_neg (by decide)]; exact this
      | succ j ih =>
        intro k t I' u7 hk h1 h2 h3
        have hk1 : ¬ 20 ≤ k := by omega
        have eu : ∀ b, upA (upA A 36 t) 36 b = upA A 36 b := fun b => by
          funext i; unfold upA; by_cases q : i = 36
          · rw [if_pos q, if_pos q]
          · rw [if_neg q, if_neg q, if_neg q]
        have e36 : upA A 36 t 36 = t := if_pos rfl
        have L71 : ∀ u7, V G X 71 [.ref 31, .int a, .int b, .int c, .int e, .int g, .int (nI k), u7] [.int (selN a b c e g k)] n z (mM f0 I' W (upA A 36 t) s) := by
          intro u7
          obtain ⟨x, hx⟩ : ∃ x, x = selN a b c e g k := ⟨_, rfl⟩
          rw [← hx]
          have hr : nI k - nI k / 4 * 4 = nI (k % 4) := pk_rem (d := 4) (by omega) (by omega) (by omega)
          have hb : x >>> ((24 - 8 * (nI k - nI k / 4 * 4)) &&& 31) &&& 255 = nI (byN x (k % 4)) := by
            rw [hr]
            rcases (by omega : k % 4 = 0 ∨ k % 4 = 1 ∨ k % 4 = 2 ∨ k % 4 = 3) with q | q | q | q <;> rw [q]
            · exact shr_0 x
            · exact shr_1 x
            · exact shr_2 x
            · exact shr_3 x
          have hcl : (nI (tl + k)).toNatClampNeg = tl + k := nI_clamp (by omega)
          have hn1 : nI (tl + k) + 1 = nI (tl + (k + 1)) := by rw [nI_1]; rfl
          have hn2 : nI k + 1 = nI (k + 1) := nI_1 k
          refine wpC_sound (PC_ok hG _) (by rw [hi]; exact ok_X9_feed) (hd := [18]) 400 _ _ _ _ _ _ ?_
          simp only [wp, stp, List.mem_cons, List.not_mem_nil, Nat.reduceEqDiff, or_false, or_self, false_or, or_true, true_or, Nat.reduceAdd, ↓reduceIte, List.getElem?_cons_zero, List.getElem?_cons_succ, nthV, List.set_cons_zero, List.set_cons_succ, noL, popA, catS, Value.category, List.length_cons, List.length_nil, Nat.reduceLT, Nat.reduceLeDiff, true_and, and_true, one0, zer1, imp_t, imp_f, ofN_nI, sdead, f20, f21, not_true_eq_false, upC_ap, upC_upC, retC, fitC, isRefT, Option.toList_some, Option.toList_none, List.cons_append, List.nil_append, Nat.lt_add_one, Nat.zero_lt_succ, Nat.le_refl, Nat.add_zero, Nat.zero_add, Nat.one_ne_zero, Nat.zero_ne_one, Nat.lt_irrefl, List.length_set, fa_X9_feed, hi, hd, hQ, mr_X9_feed, h1, e36, eu, hb, hcl, hn1, hn2, mM_31, mM_32, mM_33, mM_34, mM_35, mM_36, mM_37, mM_38, mM_39, mM_40, mM_41, mM_42, mM_43, mM_44, mM_45, mM_46, mM_47, mM_48, mu_31, mu_32, mu_33, mu_34, mu_35, mu_36, mu_37, mu_38, mu_39, mu_40, mu_41, mu_42, mu_43, mu_44, mu_45, mu_46, mu_47, mu_48, mO_len, mg_0, mg_1, mg_2, mg_3, mg_4, mg_5, mg_6, mg_7, mg_8, mg_9, mg_10, mg_11, mg_12, mg_13, mg_14, mg_15, mg_16, mg_17, mg_18, mg_19, mg_20, mg_21, mg_22, mg_23, mg_24, mg_25, mg_26, mg_27, mg_28, mg_29, mg_30, mg_31, mg_32, mg_33, mg_34, mg_35, ms_2, ms_8, ms_9, ms_10, ms_11, ms_12, ms_13, ms_14, ms_15, ms_16, ms_17, ms_18, ms_19, ms_22, ms_23, ms_32, ms_33, ms_34, ms_35, cN_0, vN_0, cN_1, vN_1, cN_2, vN_2, cN_3, vN_3, cN_4, vN_4, cN_5, vN_5, cN_6, vN_6, cN_7, vN_7, cN_8, vN_8, cN_9, vN_9, cN_190, vN_190, wpC, stpC, PC, PV, reduceCtorEq]
          refine ⟨by decide, (vin_nI (by omega)).mpr (by omega), ih (k + 1) _ _ _ (by omega) (by rw [upd_ap, if_pos rfl]) (fun i hi => by rw [upd_ap, if_neg hi]; exact h2 i hi) (fun i hi => ?_)⟩
          rw [upd_ap]
          by_cases q : i = tl + k
          · rw [if_pos q, q, fdB_at a b c e g (by omega), ← hx]
            exact ⟨byN_lt _ _, rfl⟩
          · rw [if_neg q]; exact h3 i (by omega)
        have l1 := L71 u7
        unfold selN at l1
        refine wpC_sound (PC_ok hG _) (by rw [hi]; exact ok_X9_feed) (hd := [18, 71]) 400 _ _ _ _ _ _ ?_
        simp only [wp, stp, List.mem_cons, List.not_mem_nil, Nat.reduceEqDiff, or_false, or_self, false_or, or_true, true_or, Nat.reduceAdd, ↓reduceIte, List.getElem?_cons_zero, List.getElem?_cons_succ, nthV, List.set_cons_zero, List.set_cons_succ, noL, popA, catS, Value.category, List.length_cons, List.length_nil, Nat.reduceLT, Nat.reduceLeDiff, true_and, and_true, one0, zer1, imp_t, imp_f, ofN_nI, sdead, f20, f21, not_true_eq_false, upC_ap, upC_upC, retC, fitC, isRefT, Option.toList_some, Option.toList_none, List.cons_append, List.nil_append, Nat.lt_add_one, Nat.zero_lt_succ, Nat.le_refl, Nat.add_zero, Nat.zero_add, Nat.one_ne_zero, Nat.zero_ne_one, Nat.lt_irrefl, List.length_set, fa_X9_feed, hi, hd, hQ, mr_X9_feed, hk1, mM_31, mM_32, mM_33, mM_34, mM_35, mM_36, mM_37, mM_38, mM_39, mM_40, mM_41, mM_42, mM_43, mM_44, mM_45, mM_46, mM_47, mM_48, mu_31, mu_32, mu_33, mu_34, mu_35, mu_36, mu_37, mu_38, mu_39, mu_40, mu_41, mu_42, mu_43, mu_44, mu_45, mu_46, mu_47, mu_48, mO_len, mg_0, mg_1, mg_2, mg_3, mg_4, mg_5, mg_6, mg_7, mg_8, mg_9, mg_10, mg_11, mg_12, mg_13, mg_14, mg_15, mg_16, mg_17, mg_18, mg_19, mg_20, mg_21, mg_22, mg_23, mg_24, mg_25, mg_26, mg_27, mg_28, mg_29, mg_30, mg_31, mg_32, mg_33, mg_34, mg_35, ms_2, ms_8, ms_9, ms_10, ms_11, ms_12, ms_13, ms_14, ms_15, ms_16, ms_17, ms_18, ms_19, ms_22, ms_23, ms_32, ms_33, ms_34, ms_35, cN_0, vN_0, cN_1, vN_1, cN_2, vN_2, cN_3, vN_3, cN_4, vN_4, cN_5, vN_5, cN_6, vN_6, cN_7, vN_7, cN_8, vN_8, cN_9, vN_9, cN_190, vN_190, wpC, stpC, PC, PV, reduceCtorEq]
        try simp only [m1f]
        try simp (disch := omega) only [nmod, nI_leI, nI_ltI, nI_eq, nI_clamp, vin_nI, nI_1, fa_lit, nI_add, nI_rm3, nI_rm2, pk_rem, pk_mul, pk_sub, pk_div, nI_eM, nI_Me, nI_pM, nI_pMz, nI_pM0, M1_lt, M1_le, nI_ltM, nI_leM, i8_nI, true_and, and_true, false_implies, true_implies, not_false_eq_true, not_true_eq_false, ne_eq, implies_true, Nat.not_lt_zero, Nat.zero_le, ite_min, max0, Nat.reduceLT, Nat.reduceLeDiff, Nat.reduceEqDiff, Nat.reduceAdd, Nat.reduceMul, Nat.add_zero, Nat.zero_add, hk1]
        try simp only [m1u]
        refine ⟨fun q1 => ⟨fun q2 => ⟨fun q3 => ⟨fun q4 => ?_, fun q4 => ?_⟩, fun q3 => ?_⟩, fun q2 => ?_⟩, fun q1 => ?_⟩
        · rw [if_neg (by omega), if_neg (by omega), if_neg (by omega), if_neg (by omega)] at l1; exact l1
        · rw [if_neg (by omega), if_neg (by omega), if_neg (by omega), if_pos (by omega)] at l1; exact l1
        · rw [if_neg (by omega), if_neg (by omega), if_pos (by omega)] at l1; exact l1
        · rw [if_neg (by omega), if_pos (by omega)] at l1; exact l1
        · rw [if_pos (by omega)] at l1; exact l1
    have ei : upA A 36 (A 36) = A := by
      funext i; unfold upA; by_cases q : i = 36
      · rw [if_pos q, q]
      · rw [if_neg q]
    have h20 : tl ≤ 380 := by omega
    have := fun u7 => loop 20 0 (A 36) I u7 (by omega) h10 (fun _ _ => rfl) (fun i hi => by rw [fdB_lo a b c e g (by omega)]; exact hT i (by omega))
    rw [ei] at this
    refine wpC_sound (PC_ok hG _) (by rw [hi]; exact ok_X9_feed) (hd := [18]) 400 _ _ _ _ _ _ ?_
    simp only [wp, stp, List.mem_cons, List.not_mem_nil, Nat.reduceEqDiff, or_false, or_self, false_or, or_true, true_or, Nat.reduceAdd, ↓reduceIte, List.getElem?_cons_zero, List.getElem?_cons_succ, nthV, List.set_cons_zero, List.set_cons_succ, noL, popA, catS, Value.category, List.length_cons, List.length_nil, Nat.reduceLT, Nat.reduceLeDiff, true_and, and_true, one0, zer1, imp_t, imp_f, ofN_nI, sdead, f20, f21, not_true_eq_false, upC_ap, upC_upC, retC, fitC, isRefT, Option.toList_some, Option.toList_none, List.cons_append, List.nil_append, Nat.lt_add_one, Nat.zero_lt_succ, Nat.le_refl, Nat.add_zero, Nat.zero_add, Nat.one_ne_zero, Nat.zero_ne_one, Nat.lt_irrefl, List.length_set, fa_X9_feed, hi, hd, hQ, mr_X9_feed, h10, mM_31, mM_32, mM_33, mM_34, mM_35, mM_36, mM_37, mM_38, mM_39, mM_40, mM_41, mM_42, mM_43, mM_44, mM_45, mM_46, mM_47, mM_48, mu_31, mu_32, mu_33, mu_34, mu_35, mu_36, mu_37, mu_38, mu_39, mu_40, mu_41, mu_42, mu_43, mu_44, mu_45, mu_46, mu_47, mu_48, mO_len, mg_0, mg_1, mg_2, mg_3, mg_4, mg_5, mg_6, mg_7, mg_8, mg_9, mg_10, mg_11, mg_12, mg_13, mg_14, mg_15, mg_16, mg_17, mg_18, mg_19, mg_20, mg_21, mg_22, mg_23, mg_24, mg_25, mg_26, mg_27, mg_28, mg_29, mg_30, mg_31, mg_32, mg_33, mg_34, mg_35, ms_2, ms_8, ms_9, ms_10, ms_11, ms_12, ms_13, ms_14, ms_15, ms_16, ms_17, ms_18, ms_19, ms_22, ms_23, ms_32, ms_33, ms_34, ms_35, cN_0, vN_0, cN_1, vN_1, cN_2, vN_2, cN_3, vN_3, cN_4, vN_4, cN_5, vN_5, cN_6, vN_6, cN_7, vN_7, cN_8, vN_8, cN_9, vN_9, cN_190, vN_190, wpC, stpC, PC, PV, reduceCtorEq]
    try simp only [m1f]
    try simp (disch := omega) only [nmod, nI_leI, nI_ltI, nI_eq, nI_clamp, vin_nI, nI_1, fa_lit, nI_add, nI_rm3, nI_rm2, pk_rem, pk_mul, pk_sub, pk_div, nI_eM, nI_Me, nI_pM, nI_pMz, nI_pM0, M1_lt, M1_le, nI_ltM, nI_leM, i8_nI, true_and, and_true, false_implies, true_implies, not_false_eq_true, not_true_eq_false, ne_eq, implies_true, Nat.not_lt_zero, Nat.zero_le, ite_min, max0, Nat.reduceLT, Nat.reduceLeDiff, Nat.reduceEqDiff, Nat.reduceAdd, Nat.reduceMul, Nat.add_zero, Nat.zero_add, h10]
    try simp only [m1u]
    exact ⟨fun _ => this _, fun q => absurd h20 q⟩
  · simp only [if_neg hp] at hQ
    refine wpC_sound (PC_ok hG _) (by rw [hi]; exact ok_X9_feed) (hd := [18]) 400 _ _ _ _ _ _ ?_
    simp only [wp, stp, List.mem_cons, List.not_mem_nil, Nat.reduceEqDiff, or_false, or_self, false_or, or_true, true_or, Nat.reduceAdd, ↓reduceIte, List.getElem?_cons_zero, List.getElem?_cons_succ, nthV, List.set_cons_zero, List.set_cons_succ, noL, popA, catS, Value.category, List.length_cons, List.length_nil, Nat.reduceLT, Nat.reduceLeDiff, true_and, and_true, one0, zer1, imp_t, imp_f, ofN_nI, sdead, f20, f21, not_true_eq_false, upC_ap, upC_upC, retC, fitC, isRefT, Option.toList_some, Option.toList_none, List.cons_append, List.nil_append, Nat.lt_add_one, Nat.zero_lt_succ, Nat.le_refl, Nat.add_zero, Nat.zero_add, Nat.one_ne_zero, Nat.zero_ne_one, Nat.lt_irrefl, List.length_set, fa_X9_feed, hi, hd, hQ, mr_X9_feed, h10, mM_31, mM_32, mM_33, mM_34, mM_35, mM_36, mM_37, mM_38, mM_39, mM_40, mM_41, mM_42, mM_43, mM_44, mM_45, mM_46, mM_47, mM_48, mu_31, mu_32, mu_33, mu_34, mu_35, mu_36, mu_37, mu_38, mu_39, mu_40, mu_41, mu_42, mu_43, mu_44, mu_45, mu_46, mu_47, mu_48, mO_len, mg_0, mg_1, mg_2, mg_3, mg_4, mg_5, mg_6, mg_7, mg_8, mg_9, mg_10, mg_11, mg_12, mg_13, mg_14, mg_15, mg_16, mg_17, mg_18, mg_19, mg_20, mg_21, mg_22, mg_23, mg_24, mg_25, mg_26, mg_27, mg_28, mg_29, mg_30, mg_31, mg_32, mg_33, mg_34, mg_35, ms_2, ms_8, ms_9, ms_10, ms_11, ms_12, ms_13, ms_14, ms_15, ms_16, ms_17, ms_18, ms_19, ms_22, ms_23, ms_32, ms_33, ms_34, ms_35, cN_0, vN_0, cN_1, vN_1, cN_2, vN_2, cN_3, vN_3, cN_4, vN_4, cN_5, vN_5, cN_6, vN_6, cN_7, vN_7, cN_8, vN_8, cN_9, vN_9, cN_190, vN_190, wpC, stpC, PC, PV, reduceCtorEq]
    try simp only [m1f]
    try simp (disch := omega) only [nmod, nI_leI, nI_ltI, nI_eq, nI_clamp, vin_nI, nI_1, fa_lit, nI_add, nI_rm3, nI_rm2, pk_rem, pk_mul, pk_sub, pk_div, nI_eM, nI_Me, nI_pM, nI_pMz, nI_pM0, M1_lt, M1_le, nI_ltM, nI_leM, i8_nI, true_and, and_true, false_implies, true_implies, not_false_eq_true, not_true_eq_false, ne_eq, implies_true, Nat.not_lt_zero, Nat.zero_le, ite_min, max0, Nat.reduceLT, Nat.reduceLeDiff, Nat.reduceEqDiff, Nat.reduceAdd, Nat.reduceMul, Nat.add_zero, Nat.zero_add, h10]
    try simp only [m1u]
    exact ⟨fun q => absurd q (by omega), fun _ => RX.i rfl h⟩
end Mes
