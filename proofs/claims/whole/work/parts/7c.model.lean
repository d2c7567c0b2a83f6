-- the reference: men, tents, yards, the plain
set_option maxRecDepth 100000
set_option maxHeartbeats 4000000
section Mcs
variable {G : Gam} {d n z tl : Nat} {f f0 : Mf} {I W : Nat → Int32} {A : Nat → Nat → Int32} {s : Sc} {S S' : Sta} {bs gn : Int32} {L : Lw} {tb : Nat → Nat} {fk fp : Int32} {kp : Option (Sta × Lw)}
theorem WR.man (h : WR S bs gn W) (hB : Bd S) {c : Nat} (hm : mn S < 6) : WR (manS S c) bs gn (upd (upd W (180 + mn S) (nI c)) 4 (nI (mn S + 1))) := by
  obtain ⟨⟨r1, r2⟩, r3, r4, r5⟩ := h
  have h10 := hB.1.2
  have e4 : S 0 4 + 1 = nI (mn S + 1) := by rw [hB.2.1.1, nI_1]
  have et : tn (manS S c) = tn S := by unfold manS tn; rw [upS_0 (by omega), upS_row (by omega)]
  have em := manS_mn (c := c) hB
  refine ⟨⟨fun i hi => ?_, fun c hc => ?_⟩, fun o ho => ?_, fun j o hj hj6 ho => ?_, fun m hm' => ?_⟩
  · rw [upd_ap]
    by_cases q : i = 4
    · rw [if_pos q, q]; unfold manS; rw [upS_self, e4]
    · rw [if_neg q, upd_ap, if_neg (by omega)]; unfold manS; rw [upS_0 q, upS_row (by omega)]; exact r1 i hi
  · rw [upd_ap, if_neg (by omega), upd_ap, if_neg (by omega), r2 c hc]; unfold kB manS; rw [upS_row (by omega), upS_row (by omega)]
  · rw [et] at ho; rw [upd_ap, if_neg (by omega), upd_ap, if_neg (by omega)]; unfold manS; rw [upS_row (by omega), upS_row (by omega)]; exact r3 o ho
  · rw [et] at ho; rw [upd_ap, if_neg (by omega), upd_ap, if_neg (by omega)]; unfold manS; rw [upS_row (by omega), upS_row (by omega)]; exact r4 j o hj hj6 ho
  · rw [em] at hm'
    rw [upd_ap, if_neg (by omega), upd_ap]
    unfold manS
    rw [upS_row (by omega)]
    by_cases q : m = mn S
    · rw [if_pos (by omega), q, upS_self]
    · rw [if_neg (by omega), upS_ne (by omega)]; exact r5 m (by omega)
theorem MG.man (h : MG S) (hB : Bd S) {c : Nat} (hc : c < 1000) : MG (manS S c) := fun m hm => by
  rw [manS_mn hB] at hm
  unfold manS
  rw [upS_row (by omega)]
  by_cases q : m = mn S
  · rw [q, upS_self]; exact fun q => (nI_em (by omega)).mp q
  · rw [upS_ne (by omega)]; exact h m (by omega)
theorem man_op {c : Nat} : opS (manS S c) bs = opS S bs := opS_cg (by unfold manS; rw [upS_0 (by omega), upS_row (by omega)]) (by unfold manS; rw [upS_0 (by omega), upS_row (by omega)]) (by unfold manS; rw [upS_row (by omega), upS_row (by omega)]) bs
theorem t9_man (hG : Ok G) (hd1 : 5 ≤ d) (h : RM S L tb tl fk fp kp I W A s) (hk : Vk S) (y : Int32) : Tr G d 142 [.ref 31, .int y] n z (mM f0 I W A s) (RX (if ¬ 5 ≤ S 0 4 ∧ frS S y then manS S y.toNatClampNeg else S) L tb tl fk fp kp n z f0 (if ¬ 5 ≤ S 0 4 ∧ frS S y then S 0 4 else -1)) := by
  have hB := h.1.1.1.1.1
  have hm5 := h.1.1.1.1.2
  have b3 := hB.2.1.1
  obtain ⟨w0, w1, w2, w3, w4, -⟩ := h.1.2.1.ten
  rw [b3] at w4
  have h5 : ¬ 5 ≤ S 0 4 ↔ ¬ mn S = 5 := by rw [b3, show (5 : Int32) = nI 5 from rfl, nI_leI (by omega) (by omega)]; omega
  refine Tr.of2 (ls0 := [.ref 31, .int y]) hG mo_X9_man (Nat.le_of_ble_eq_true rfl) rfl ?_
  intro X hi hd hXn hXz hXf hQ
  have no : ¬ (¬ 5 ≤ S 0 4 ∧ frS S y) → RX (if ¬ 5 ≤ S 0 4 ∧ frS S y then manS S y.toNatClampNeg else S) L tb tl fk fp kp n z f0 (if ¬ 5 ≤ S 0 4 ∧ frS S y then S 0 4 else -1) (some (.int (-1))) n z (mM f0 I W A s) := fun q => by
    rw [if_neg q, if_neg q]; exact RX.i rfl h
  by_cases q5 : mn S = 5
  · have w4' : W 4 = 5 := by rw [w4, q5]; rfl
    refine wpC_sound (PC_ok hG _) (by rw [hi]; exact ok_X9_man) (hd := [15]) 400 _ _ _ _ _ _ ?_
    simp only [wp, stp, List.mem_cons, List.not_mem_nil, Nat.reduceEqDiff, or_false, or_self, false_or, or_true, true_or, Nat.reduceAdd, ↓reduceIte, List.getElem?_cons_zero, List.getElem?_cons_succ, nthV, List.set_cons_zero, List.set_cons_succ, noL, popA, catS, Value.category, List.length_cons, List.length_nil, Nat.reduceLT, Nat.reduceLeDiff, true_and, and_true, one0, zer1, imp_t, imp_f, ofN_nI, sdead, f20, f21, not_true_eq_false, upC_ap, upC_upC, retC, fitC, isRefT, Option.toList_some, Option.toList_none, List.cons_append, List.nil_append, Nat.lt_add_one, Nat.zero_lt_succ, Nat.le_refl, Nat.add_zero, Nat.zero_add, Nat.one_ne_zero, Nat.zero_ne_one, Nat.lt_irrefl, List.length_set, fa_X9_man, hi, hd, hQ, mr_X9_man, w4', true_implies, mM_31, mM_32, mM_33, mM_34, mM_35, mM_36, mM_37, mM_38, mM_39, mM_40, mM_41, mM_42, mM_43, mM_44, mM_45, mM_46, mM_47, mM_48, mu_31, mu_32, mu_33, mu_34, mu_35, mu_36, mu_37, mu_38, mu_39, mu_40, mu_41, mu_42, mu_43, mu_44, mu_45, mu_46, mu_47, mu_48, mO_len, mg_0, mg_1, mg_2, mg_3, mg_4, mg_5, mg_6, mg_7, mg_8, mg_9, mg_10, mg_11, mg_12, mg_13, mg_14, mg_15, mg_16, mg_17, mg_18, mg_19, mg_20, mg_21, mg_22, mg_23, mg_24, mg_25, mg_26, mg_27, mg_28, mg_29, mg_30, mg_31, mg_32, mg_33, mg_34, mg_35, ms_2, ms_8, ms_9, ms_10, ms_11, ms_12, ms_13, ms_14, ms_15, ms_16, ms_17, ms_18, ms_19, ms_22, ms_23, ms_32, ms_33, ms_34, ms_35, cN_0, vN_0, cN_1, vN_1, cN_2, vN_2, cN_3, vN_3, cN_4, vN_4, cN_5, vN_5, cN_6, vN_6, cN_7, vN_7, cN_8, vN_8, cN_9, vN_9, cN_190, vN_190, wpC, stpC, PC, PV, reduceCtorEq]
    exact no (fun r => h5.mp r.1 q5)
  · have w4' : ¬ nI (mn S) = 5 := fun r => q5 ((nI_eq (b := 5) (by omega) (by omega)).mp r)
    refine wpC_sound (PC_ok hG _) (by rw [hi]; exact ok_X9_man) (hd := [15]) 400 _ _ _ _ _ _ ?_
    simp only [wp, stp, List.mem_cons, List.not_mem_nil, Nat.reduceEqDiff, or_false, or_self, false_or, or_true, true_or, Nat.reduceAdd, ↓reduceIte, List.getElem?_cons_zero, List.getElem?_cons_succ, nthV, List.set_cons_zero, List.set_cons_succ, noL, popA, catS, Value.category, List.length_cons, List.length_nil, Nat.reduceLT, Nat.reduceLeDiff, true_and, and_true, one0, zer1, imp_t, imp_f, ofN_nI, sdead, f20, f21, not_true_eq_false, upC_ap, upC_upC, retC, fitC, isRefT, Option.toList_some, Option.toList_none, List.cons_append, List.nil_append, Nat.lt_add_one, Nat.zero_lt_succ, Nat.le_refl, Nat.add_zero, Nat.zero_add, Nat.one_ne_zero, Nat.zero_ne_one, Nat.lt_irrefl, List.length_set, fa_X9_man, hi, hd, hQ, mr_X9_man, w4, w4', true_implies, mM_31, mM_32, mM_33, mM_34, mM_35, mM_36, mM_37, mM_38, mM_39, mM_40, mM_41, mM_42, mM_43, mM_44, mM_45, mM_46, mM_47, mM_48, mu_31, mu_32, mu_33, mu_34, mu_35, mu_36, mu_37, mu_38, mu_39, mu_40, mu_41, mu_42, mu_43, mu_44, mu_45, mu_46, mu_47, mu_48, mO_len, mg_0, mg_1, mg_2, mg_3, mg_4, mg_5, mg_6, mg_7, mg_8, mg_9, mg_10, mg_11, mg_12, mg_13, mg_14, mg_15, mg_16, mg_17, mg_18, mg_19, mg_20, mg_21, mg_22, mg_23, mg_24, mg_25, mg_26, mg_27, mg_28, mg_29, mg_30, mg_31, mg_32, mg_33, mg_34, mg_35, ms_2, ms_8, ms_9, ms_10, ms_11, ms_12, ms_13, ms_14, ms_15, ms_16, ms_17, ms_18, ms_19, ms_22, ms_23, ms_32, ms_33, ms_34, ms_35, cN_0, vN_0, cN_1, vN_1, cN_2, vN_2, cN_3, vN_3, cN_4, vN_4, cN_5, vN_5, cN_6, vN_6, cN_7, vN_7, cN_8, vN_8, cN_9, vN_9, cN_190, vN_190, wpC, stpC, PC, PV, reduceCtorEq]
    refine ⟨by omega, _, t9_isFree hG (by omega) hB h.1.2.1 y, ?_⟩
    rintro r n2 z2 f2 ⟨rfl, rfl, rfl, rfl⟩
    by_cases q : frS S y
    · obtain ⟨c, hc, rfl⟩ := inS_nI q.1.1
      have hcc : (nI c).toNatClampNeg = c := nI_clamp (by omega)
      have hq : ¬ 5 ≤ S 0 4 ∧ frS S (nI c) := ⟨h5.mpr q5, q⟩
      rw [if_pos hq, if_pos hq, hcc] at hQ
      rw [bI_t q]
      have u4 : upd W (180 + mn S) (nI c) 4 = nI (mn S) := by rw [upd_ap, if_neg (by omega)]; exact w4
      have u5 : upd (upd W (180 + mn S) (nI c)) 4 (nI (mn S + 1)) 4 = nI (mn S + 1) := by rw [upd_ap, if_pos rfl]
      refine wpC_sound (PC_ok hG _) (by rw [hi]; exact ok_X9_man) (hd := [15]) 400 _ _ _ _ _ _ ?_
      simp only [wp, stp, List.mem_cons, List.not_mem_nil, Nat.reduceEqDiff, or_false, or_self, false_or, or_true, true_or, Nat.reduceAdd, ↓reduceIte, List.getElem?_cons_zero, List.getElem?_cons_succ, nthV, List.set_cons_zero, List.set_cons_succ, noL, popA, catS, Value.category, List.length_cons, List.length_nil, Nat.reduceLT, Nat.reduceLeDiff, true_and, and_true, one0, zer1, imp_t, imp_f, ofN_nI, sdead, f20, f21, not_true_eq_false, upC_ap, upC_upC, retC, fitC, isRefT, Option.toList_some, Option.toList_none, List.cons_append, List.nil_append, Nat.lt_add_one, Nat.zero_lt_succ, Nat.le_refl, Nat.add_zero, Nat.zero_add, Nat.one_ne_zero, Nat.zero_ne_one, Nat.lt_irrefl, List.length_set, fa_X9_man, hi, hd, hQ, mr_X9_man, w4, u4, u5, mM_31, mM_32, mM_33, mM_34, mM_35, mM_36, mM_37, mM_38, mM_39, mM_40, mM_41, mM_42, mM_43, mM_44, mM_45, mM_46, mM_47, mM_48, mu_31, mu_32, mu_33, mu_34, mu_35, mu_36, mu_37, mu_38, mu_39, mu_40, mu_41, mu_42, mu_43, mu_44, mu_45, mu_46, mu_47, mu_48, mO_len, mg_0, mg_1, mg_2, mg_3, mg_4, mg_5, mg_6, mg_7, mg_8, mg_9, mg_10, mg_11, mg_12, mg_13, mg_14, mg_15, mg_16, mg_17, mg_18, mg_19, mg_20, mg_21, mg_22, mg_23, mg_24, mg_25, mg_26, mg_27, mg_28, mg_29, mg_30, mg_31, mg_32, mg_33, mg_34, mg_35, ms_2, ms_8, ms_9, ms_10, ms_11, ms_12, ms_13, ms_14, ms_15, ms_16, ms_17, ms_18, ms_19, ms_22, ms_23, ms_32, ms_33, ms_34, ms_35, cN_0, vN_0, cN_1, vN_1, cN_2, vN_2, cN_3, vN_3, cN_4, vN_4, cN_5, vN_5, cN_6, vN_6, cN_7, vN_7, cN_8, vN_8, cN_9, vN_9, cN_190, vN_190, wpC, stpC, PC, PV, reduceCtorEq]
      try simp only [m1f]
      try simp (disch := omega) only [nmod, nI_leI, nI_ltI, nI_eq, nI_clamp, vin_nI, nI_1, fa_lit, nI_add, nI_rm3, nI_rm2, pk_rem, pk_mul, pk_sub, pk_div, nI_eM, nI_Me, nI_pM, nI_pMz, nI_pM0, M1_lt, M1_le, nI_ltM, nI_leM, i8_nI, true_and, and_true, false_implies, true_implies, not_false_eq_true, not_true_eq_false, ne_eq, implies_true, Nat.not_lt_zero, Nat.zero_le, ite_min, max0, Nat.reduceLT, Nat.reduceLeDiff, Nat.reduceEqDiff, Nat.reduceAdd, Nat.reduceMul, Nat.add_zero, Nat.zero_add, w4, u4, u5]
      try simp only [m1u]
      refine ⟨by omega, RX.i ?_ (h.hv (h.1.cg ⟨(hk.man hc q (by omega)).1, h.1.1.2.man hB (by omega)⟩ (h.1.2.1.man hB (by omega)) (fun i hi => by rw [upd_ap, if_neg (by omega), upd_ap, if_neg (by omega)]) man_op))⟩
      rw [b3, show mn S + 1 - 1 = mn S by omega]
    · rw [bI_f q]
      refine wpC_sound (PC_ok hG _) (by rw [hi]; exact ok_X9_man) (hd := [15]) 400 _ _ _ _ _ _ ?_
      simp only [wp, stp, List.mem_cons, List.not_mem_nil, Nat.reduceEqDiff, or_false, or_self, false_or, or_true, true_or, Nat.reduceAdd, ↓reduceIte, List.getElem?_cons_zero, List.getElem?_cons_succ, nthV, List.set_cons_zero, List.set_cons_succ, noL, popA, catS, Value.category, List.length_cons, List.length_nil, Nat.reduceLT, Nat.reduceLeDiff, true_and, and_true, one0, zer1, imp_t, imp_f, ofN_nI, sdead, f20, f21, not_true_eq_false, upC_ap, upC_upC, retC, fitC, isRefT, Option.toList_some, Option.toList_none, List.cons_append, List.nil_append, Nat.lt_add_one, Nat.zero_lt_succ, Nat.le_refl, Nat.add_zero, Nat.zero_add, Nat.one_ne_zero, Nat.zero_ne_one, Nat.lt_irrefl, List.length_set, fa_X9_man, hi, hd, hQ, mr_X9_man, mM_31, mM_32, mM_33, mM_34, mM_35, mM_36, mM_37, mM_38, mM_39, mM_40, mM_41, mM_42, mM_43, mM_44, mM_45, mM_46, mM_47, mM_48, mu_31, mu_32, mu_33, mu_34, mu_35, mu_36, mu_37, mu_38, mu_39, mu_40, mu_41, mu_42, mu_43, mu_44, mu_45, mu_46, mu_47, mu_48, mO_len, mg_0, mg_1, mg_2, mg_3, mg_4, mg_5, mg_6, mg_7, mg_8, mg_9, mg_10, mg_11, mg_12, mg_13, mg_14, mg_15, mg_16, mg_17, mg_18, mg_19, mg_20, mg_21, mg_22, mg_23, mg_24, mg_25, mg_26, mg_27, mg_28, mg_29, mg_30, mg_31, mg_32, mg_33, mg_34, mg_35, ms_2, ms_8, ms_9, ms_10, ms_11, ms_12, ms_13, ms_14, ms_15, ms_16, ms_17, ms_18, ms_19, ms_22, ms_23, ms_32, ms_33, ms_34, ms_35, cN_0, vN_0, cN_1, vN_1, cN_2, vN_2, cN_3, vN_3, cN_4, vN_4, cN_5, vN_5, cN_6, vN_6, cN_7, vN_7, cN_8, vN_8, cN_9, vN_9, cN_190, vN_190, wpC, stpC, PC, PV, reduceCtorEq]
      exact fun _ => no (fun r => q r.2)
theorem t9_yard (hG : Ok G) (hd1 : 3 ≤ d) (h : RM S L tb tl fk fp kp I W A s) (hk : Vk S) (y k : Int32) : Tr G d 138 [.ref 31, .int y, .int k] n z (mM f0 I W A s) (RX (if ydP S y k then upS S 1 y.toNatClampNeg k else S) L tb tl fk fp kp n z f0 (bI (ydP S y k))) := by
  have hB := h.1.1.1.1.1
  obtain ⟨w0, w1, w2, w3, w4, w5, -⟩ := h.1.2.1.ten
  refine Tr.of2 (ls0 := [.ref 31, .int y, .int k]) hG mo_X9_yard (Nat.le_of_ble_eq_true rfl) rfl ?_
  intro X hi hd hXn hXz hXf hQ
  have no : ¬ ydP S y k → RX (if ydP S y k then upS S 1 y.toNatClampNeg k else S) L tb tl fk fp kp n z f0 (bI (ydP S y k)) (some (.int 0)) n z (mM f0 I W A s) := fun q => RX.no q h
  have L53 : ydP S y k → V G X 53 [.ref 31, .int y, .int k] [] n z (mM f0 I W A s) := by
    intro hp
    obtain ⟨c, hc, rfl⟩ := inS_nI hp.1.1
    have hcc : (nI c).toNatClampNeg = c := nI_clamp (by omega)
    have hin : vp_in (20 + nI c) 1075 := by rw [show (20 : Int32) = nI 20 from rfl, nI_add, vin_nI (by omega)]; omega
    have hcl : (20 + nI c).toNatClampNeg = 20 + c := by rw [show (20 : Int32) = nI 20 from rfl, nI_add, nI_clamp (by omega)]
    have hv : k = 0 ∨ k = 1 ∨ k = 2 := by
      obtain ⟨j, hj, rfl⟩ := nI_of2 (M := 2) (n := 2) rfl hp.1.2.1 hp.1.2.2
      rcases (by omega : j = 0 ∨ j = 1 ∨ j = 2) with e | e | e <;> subst e
      · exact Or.inl rfl
      · exact Or.inr (Or.inl rfl)
      · exact Or.inr (Or.inr rfl)
    refine wpC_sound (PC_ok hG _) (by rw [hi]; exact ok_X9_yard) (hd := [5, 28, 37]) 400 _ _ _ _ _ _ ?_
    simp only [wp, stp, List.mem_cons, List.not_mem_nil, Nat.reduceEqDiff, or_false, or_self, false_or, or_true, true_or, Nat.reduceAdd, ↓reduceIte, List.getElem?_cons_zero, List.getElem?_cons_succ, nthV, List.set_cons_zero, List.set_cons_succ, noL, popA, catS, Value.category, List.length_cons, List.length_nil, Nat.reduceLT, Nat.reduceLeDiff, true_and, and_true, one0, zer1, imp_t, imp_f, ofN_nI, sdead, f20, f21, not_true_eq_false, upC_ap, upC_upC, retC, fitC, isRefT, Option.toList_some, Option.toList_none, List.cons_append, List.nil_append, Nat.lt_add_one, Nat.zero_lt_succ, Nat.le_refl, Nat.add_zero, Nat.zero_add, Nat.one_ne_zero, Nat.zero_ne_one, Nat.lt_irrefl, List.length_set, fa_X9_yard, hi, hd, hQ, mr_X9_yard, hcl, mM_31, mM_32, mM_33, mM_34, mM_35, mM_36, mM_37, mM_38, mM_39, mM_40, mM_41, mM_42, mM_43, mM_44, mM_45, mM_46, mM_47, mM_48, mu_31, mu_32, mu_33, mu_34, mu_35, mu_36, mu_37, mu_38, mu_39, mu_40, mu_41, mu_42, mu_43, mu_44, mu_45, mu_46, mu_47, mu_48, mO_len, mg_0, mg_1, mg_2, mg_3, mg_4, mg_5, mg_6, mg_7, mg_8, mg_9, mg_10, mg_11, mg_12, mg_13, mg_14, mg_15, mg_16, mg_17, mg_18, mg_19, mg_20, mg_21, mg_22, mg_23, mg_24, mg_25, mg_26, mg_27, mg_28, mg_29, mg_30, mg_31, mg_32, mg_33, mg_34, mg_35, ms_2, ms_8, ms_9, ms_10, ms_11, ms_12, ms_13, ms_14, ms_15, ms_16, ms_17, ms_18, ms_19, ms_22, ms_23, ms_32, ms_33, ms_34, ms_35, cN_0, vN_0, cN_1, vN_1, cN_2, vN_2, cN_3, vN_3, cN_4, vN_4, cN_5, vN_5, cN_6, vN_6, cN_7, vN_7, cN_8, vN_8, cN_9, vN_9, cN_190, vN_190, wpC, stpC, PC, PV, reduceCtorEq]
    refine ⟨hin, RX.yes hp ?_⟩
    rw [hcc]
    obtain ⟨⟨r1, r2⟩, r3, r4, r5⟩ := h.1.2.1
    have et : tn (upS S 1 c k) = tn S := by unfold tn; rw [upS_row (by omega)]
    have em : mn (upS S 1 c k) = mn S := by unfold mn; rw [upS_row (by omega)]
    refine h.hv ⟨⟨(hk.yd hc hv hp.2).1, h.1.1.2.cg (by rw [upS_row (by omega)]) (upS_row (by omega))⟩, ⟨⟨fun i hi => ?_, fun x hx => ?_⟩, fun o ho => ?_, fun j o hj hj6 ho => ?_, fun m hm => ?_⟩, h.1.2.2.1.cong (fun i hi => by rw [upd_ap, if_neg (by omega)]), Or.inl rfl, h.1.2.2.2.2⟩
    · rw [upd_ap, if_neg (by omega), upS_row (by omega)]; exact r1 i hi
    · have kb : ∀ (T : Sta) x, kB T 1 x = T 1 x := fun T x => if_neg (fun r => absurd r.1 (by decide))
      rw [kb, upd_ap]
      by_cases q : x = c
      · rw [if_pos (by omega), q, upS_self]
      · rw [if_neg (by omega), upS_ne (by omega), r2 x hx, kb]
    · rw [et] at ho; rw [upd_ap, if_neg (by omega), upS_row (by omega)]; exact r3 o ho
    · rw [et] at ho; rw [upd_ap, if_neg (by omega), upS_row (by omega)]; exact r4 j o hj hj6 ho
    · rw [em] at hm; rw [upd_ap, if_neg (by omega), upS_row (by omega)]; exact r5 m hm
  refine wpC_sound (PC_ok hG _) (by rw [hi]; exact ok_X9_yard) (hd := [5, 28, 37]) 400 _ _ _ _ _ _ ?_
  simp only [wp, stp, List.mem_cons, List.not_mem_nil, Nat.reduceEqDiff, or_false, or_self, false_or, or_true, true_or, Nat.reduceAdd, ↓reduceIte, List.getElem?_cons_zero, List.getElem?_cons_succ, nthV, List.set_cons_zero, List.set_cons_succ, noL, popA, catS, Value.category, List.length_cons, List.length_nil, Nat.reduceLT, Nat.reduceLeDiff, true_and, and_true, one0, zer1, imp_t, imp_f, ofN_nI, sdead, f20, f21, not_true_eq_false, upC_ap, upC_upC, retC, fitC, isRefT, Option.toList_some, Option.toList_none, List.cons_append, List.nil_append, Nat.lt_add_one, Nat.zero_lt_succ, Nat.le_refl, Nat.add_zero, Nat.zero_add, Nat.one_ne_zero, Nat.zero_ne_one, Nat.lt_irrefl, List.length_set, fa_X9_yard, hi, hd, hQ, mr_X9_yard, mM_31, mM_32, mM_33, mM_34, mM_35, mM_36, mM_37, mM_38, mM_39, mM_40, mM_41, mM_42, mM_43, mM_44, mM_45, mM_46, mM_47, mM_48, mu_31, mu_32, mu_33, mu_34, mu_35, mu_36, mu_37, mu_38, mu_39, mu_40, mu_41, mu_42, mu_43, mu_44, mu_45, mu_46, mu_47, mu_48, mO_len, mg_0, mg_1, mg_2, mg_3, mg_4, mg_5, mg_6, mg_7, mg_8, mg_9, mg_10, mg_11, mg_12, mg_13, mg_14, mg_15, mg_16, mg_17, mg_18, mg_19, mg_20, mg_21, mg_22, mg_23, mg_24, mg_25, mg_26, mg_27, mg_28, mg_29, mg_30, mg_31, mg_32, mg_33, mg_34, mg_35, ms_2, ms_8, ms_9, ms_10, ms_11, ms_12, ms_13, ms_14, ms_15, ms_16, ms_17, ms_18, ms_19, ms_22, ms_23, ms_32, ms_33, ms_34, ms_35, cN_0, vN_0, cN_1, vN_1, cN_2, vN_2, cN_3, vN_3, cN_4, vN_4, cN_5, vN_5, cN_6, vN_6, cN_7, vN_7, cN_8, vN_8, cN_9, vN_9, cN_190, vN_190, wpC, stpC, PC, PV, reduceCtorEq]
  refine ⟨by omega, _, t9_isYard hG (by omega) hB h.1.2.1 y, ?_⟩
  rintro r n2 z2 f2 ⟨rfl, rfl, rfl, rfl⟩
  refine wpC_sound (PC_ok hG _) (by rw [hi]; exact ok_X9_yard) (hd := [5, 28, 37, 53]) 400 _ _ _ _ _ _ ?_
  simp only [wp, stp, List.mem_cons, List.not_mem_nil, Nat.reduceEqDiff, or_false, or_self, false_or, or_true, true_or, Nat.reduceAdd, ↓reduceIte, List.getElem?_cons_zero, List.getElem?_cons_succ, nthV, List.set_cons_zero, List.set_cons_succ, noL, popA, catS, Value.category, List.length_cons, List.length_nil, Nat.reduceLT, Nat.reduceLeDiff, true_and, and_true, one0, zer1, imp_t, imp_f, ofN_nI, sdead, f20, f21, not_true_eq_false, upC_ap, upC_upC, retC, fitC, isRefT, Option.toList_some, Option.toList_none, List.cons_append, List.nil_append, Nat.lt_add_one, Nat.zero_lt_succ, Nat.le_refl, Nat.add_zero, Nat.zero_add, Nat.one_ne_zero, Nat.zero_ne_one, Nat.lt_irrefl, List.length_set, fa_X9_yard, hi, hd, hQ, mr_X9_yard, bI_0, mM_31, mM_32, mM_33, mM_34, mM_35, mM_36, mM_37, mM_38, mM_39, mM_40, mM_41, mM_42, mM_43, mM_44, mM_45, mM_46, mM_47, mM_48, mu_31, mu_32, mu_33, mu_34, mu_35, mu_36, mu_37, mu_38, mu_39, mu_40, mu_41, mu_42, mu_43, mu_44, mu_45, mu_46, mu_47, mu_48, mO_len, mg_0, mg_1, mg_2, mg_3, mg_4, mg_5, mg_6, mg_7, mg_8, mg_9, mg_10, mg_11, mg_12, mg_13, mg_14, mg_15, mg_16, mg_17, mg_18, mg_19, mg_20, mg_21, mg_22, mg_23, mg_24, mg_25, mg_26, mg_27, mg_28, mg_29, mg_30, mg_31, mg_32, mg_33, mg_34, mg_35, ms_2, ms_8, ms_9, ms_10, ms_11, ms_12, ms_13, ms_14, ms_15, ms_16, ms_17, ms_18, ms_19, ms_22, ms_23, ms_32, ms_33, ms_34, ms_35, cN_0, vN_0, cN_1, vN_1, cN_2, vN_2, cN_3, vN_3, cN_4, vN_4, cN_5, vN_5, cN_6, vN_6, cN_7, vN_7, cN_8, vN_8, cN_9, vN_9, cN_190, vN_190, wpC, stpC, PC, PV, reduceCtorEq]
  refine ⟨fun q => no (fun r => q r.1.1), fun q => ⟨by omega, fun q1 => ⟨fun q2 => ?_, fun q2 => ⟨by omega, _, t9_tentAt hG (by omega) hB h.1.2.1 y, ?_⟩⟩, fun q1 => no (fun r => q1 ⟨r.1.2.1, Int32.not_lt.mpr r.1.2.2⟩)⟩⟩
  · have q1 := Decidable.not_not.mp q1
    exact L53 ⟨⟨Decidable.not_not.mp q, q1.1, Int32.not_lt.mp q1.2⟩, Or.inl q2⟩
  · rintro r n2 z2 f2 ⟨rfl, rfl, rfl, rfl⟩
    have q1 := Decidable.not_not.mp q1
    refine wpC_sound (PC_ok hG _) (by rw [hi]; exact ok_X9_yard) (hd := [5, 28, 37, 53]) 400 _ _ _ _ _ _ ?_
    simp only [wp, stp, List.mem_cons, List.not_mem_nil, Nat.reduceEqDiff, or_false, or_self, false_or, or_true, true_or, Nat.reduceAdd, ↓reduceIte, List.getElem?_cons_zero, List.getElem?_cons_succ, nthV, List.set_cons_zero, List.set_cons_succ, noL, popA, catS, Value.category, List.length_cons, List.length_nil, Nat.reduceLT, Nat.reduceLeDiff, true_and, and_true, one0, zer1, imp_t, imp_f, ofN_nI, sdead, f20, f21, not_true_eq_false, upC_ap, upC_upC, retC, fitC, isRefT, Option.toList_some, Option.toList_none, List.cons_append, List.nil_append, Nat.lt_add_one, Nat.zero_lt_succ, Nat.le_refl, Nat.add_zero, Nat.zero_add, Nat.one_ne_zero, Nat.zero_ne_one, Nat.lt_irrefl, List.length_set, fa_X9_yard, hi, hd, hQ, mr_X9_yard, mM_31, mM_32, mM_33, mM_34, mM_35, mM_36, mM_37, mM_38, mM_39, mM_40, mM_41, mM_42, mM_43, mM_44, mM_45, mM_46, mM_47, mM_48, mu_31, mu_32, mu_33, mu_34, mu_35, mu_36, mu_37, mu_38, mu_39, mu_40, mu_41, mu_42, mu_43, mu_44, mu_45, mu_46, mu_47, mu_48, mO_len, mg_0, mg_1, mg_2, mg_3, mg_4, mg_5, mg_6, mg_7, mg_8, mg_9, mg_10, mg_11, mg_12, mg_13, mg_14, mg_15, mg_16, mg_17, mg_18, mg_19, mg_20, mg_21, mg_22, mg_23, mg_24, mg_25, mg_26, mg_27, mg_28, mg_29, mg_30, mg_31, mg_32, mg_33, mg_34, mg_35, ms_2, ms_8, ms_9, ms_10, ms_11, ms_12, ms_13, ms_14, ms_15, ms_16, ms_17, ms_18, ms_19, ms_22, ms_23, ms_32, ms_33, ms_34, ms_35, cN_0, vN_0, cN_1, vN_1, cN_2, vN_2, cN_3, vN_3, cN_4, vN_4, cN_5, vN_5, cN_6, vN_6, cN_7, vN_7, cN_8, vN_8, cN_9, vN_9, cN_190, vN_190, wpC, stpC, PC, PV, reduceCtorEq]
    refine ⟨fun q3 => no (fun r => r.2.elim q2 (fun r => r (Or.inl q3))), fun q3 => ⟨by omega, _, t9_manAt hG (by omega) hB h.1.2.1 y, ?_⟩⟩
    rintro r n2 z2 f2 ⟨rfl, rfl, rfl, rfl⟩
    refine wpC_sound (PC_ok hG _) (by rw [hi]; exact ok_X9_yard) (hd := [5, 28, 37, 53]) 400 _ _ _ _ _ _ ?_
    simp only [wp, stp, List.mem_cons, List.not_mem_nil, Nat.reduceEqDiff, or_false, or_self, false_or, or_true, true_or, Nat.reduceAdd, ↓reduceIte, List.getElem?_cons_zero, List.getElem?_cons_succ, nthV, List.set_cons_zero, List.set_cons_succ, noL, popA, catS, Value.category, List.length_cons, List.length_nil, Nat.reduceLT, Nat.reduceLeDiff, true_and, and_true, one0, zer1, imp_t, imp_f, ofN_nI, sdead, f20, f21, not_true_eq_false, upC_ap, upC_upC, retC, fitC, isRefT, Option.toList_some, Option.toList_none, List.cons_append, List.nil_append, Nat.lt_add_one, Nat.zero_lt_succ, Nat.le_refl, Nat.add_zero, Nat.zero_add, Nat.one_ne_zero, Nat.zero_ne_one, Nat.lt_irrefl, List.length_set, fa_X9_yard, hi, hd, hQ, mr_X9_yard, w5, mM_31, mM_32, mM_33, mM_34, mM_35, mM_36, mM_37, mM_38, mM_39, mM_40, mM_41, mM_42, mM_43, mM_44, mM_45, mM_46, mM_47, mM_48, mu_31, mu_32, mu_33, mu_34, mu_35, mu_36, mu_37, mu_38, mu_39, mu_40, mu_41, mu_42, mu_43, mu_44, mu_45, mu_46, mu_47, mu_48, mO_len, mg_0, mg_1, mg_2, mg_3, mg_4, mg_5, mg_6, mg_7, mg_8, mg_9, mg_10, mg_11, mg_12, mg_13, mg_14, mg_15, mg_16, mg_17, mg_18, mg_19, mg_20, mg_21, mg_22, mg_23, mg_24, mg_25, mg_26, mg_27, mg_28, mg_29, mg_30, mg_31, mg_32, mg_33, mg_34, mg_35, ms_2, ms_8, ms_9, ms_10, ms_11, ms_12, ms_13, ms_14, ms_15, ms_16, ms_17, ms_18, ms_19, ms_22, ms_23, ms_32, ms_33, ms_34, ms_35, cN_0, vN_0, cN_1, vN_1, cN_2, vN_2, cN_3, vN_3, cN_4, vN_4, cN_5, vN_5, cN_6, vN_6, cN_7, vN_7, cN_8, vN_8, cN_9, vN_9, cN_190, vN_190, wpC, stpC, PC, PV, reduceCtorEq]
    exact ⟨fun q4 => no (fun r => r.2.elim q2 (fun r => r (Or.inr (Or.inl q4)))), fun q4 => ⟨fun q5 => L53 ⟨⟨Decidable.not_not.mp q, q1.1, Int32.not_lt.mp q1.2⟩, Or.inr (fun r => r.elim (fun z => z q3) (fun r => r.elim (fun z => z q4) q5))⟩, fun q5 => no (fun r => r.2.elim q2 (fun r => r (Or.inr (Or.inr q5))))⟩⟩
end Mcs
