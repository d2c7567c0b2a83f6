-- the reference: a tent thought elsewhere
set_option maxRecDepth 100000
set_option maxHeartbeats 4000000
section M6s
variable {G : Gam} {d n z : Nat} {f f0 : Mf} {I W : Nat → Int32} {A : Nat → Nat → Int32} {s : Sc} {S S' : Sta} {bs gn : Int32} {L : Lw}
theorem WL.cong {W' : Nat → Int32} (h : WL W L) (hw : ∀ i, 190 ≤ i → W' i = W i) : WL W' L := by
  obtain ⟨ls, ks, vs, fr, md, tt, T, ⟨l1, l2⟩, l3, l5, l6, l7⟩ := h
  refine ⟨ls, ks, vs, fr, md, tt, T, ⟨by rw [hw _ (by omega)]; exact l1, l2⟩, l3, l5, fun i a b => by rw [hw _ (by omega), hw _ (by omega)]; exact l6 i a b, fun l e c hl => ?_⟩
  obtain ⟨⟨a, b, c⟩, r⟩ := l7 l e c hl
  exact ⟨⟨by rw [hw _ (by omega)]; exact a, by rw [hw _ (by omega)]; exact b, by rw [hw _ (by omega)]; exact c⟩, r⟩
theorem WyM.cg (h : WyM S bs s) (he : opS S' bs = opS S bs) : WyM S' bs s := by
  unfold WyM at *
  have e : ∀ a b, wayS S' bs a b = wayS S bs a b := fun a b => by unfold wayS; rw [he]
  rw [he]
  simp only [e]
  exact h
theorem mv_op (t : Nat) (v : Int32) : opS (upS S 2 t v) bs = opS S bs := opS_cg (by rw [upS_row (by omega)]) (by rw [upS_row (by omega)]) (by rw [upS_row (by omega)]) bs
theorem mv_tn (t : Nat) (v : Int32) : tn (upS S 2 t v) = tn S := by unfold tn; rw [upS_row (by omega)]
theorem mv_mn (t : Nat) (v : Int32) : mn (upS S 2 t v) = mn S := by unfold mn; rw [upS_row (by omega)]
theorem mv_bd (h : Bd S) (t : Nat) (v : Int32) : Bd (upS S 2 t v) := by
  unfold Bd
  rw [mv_tn, mv_mn, upS_row (by omega)]
  exact h
theorem mv_gs (t : Nat) (v : Int32) (c : Nat) : gsN (upS S 2 t v) c ↔ gsN S c := by
  unfold gsN wdt hgt; rw [upS_row (by omega), upS_row (by omega)]
theorem mv_yb {t o : Nat} {v : Int32} (h : ¬ o = t ∨ tn S ≤ o) : ybS (upS S 2 t v) o = ybS S o := by
  unfold ybS
  rw [mv_tn, mv_mn, upS_row (a := 8) (by omega), upS_row (a := 0) (by omega)]
  by_cases q : o < tn S
  · rw [if_pos q, if_pos q, upS_ne (by omega)]
  · rw [if_neg q, if_neg q]
theorem Hb.mv (h : Hb S bs gn I W) {t c : Nat} (ht : t < tn S) (hc : gsN S c) (hg : ¬ nI t = gn) : Hb (upS S 2 t (nI c)) bs gn I (upd W (120 + 6 * t) (nI c)) := by
  obtain ⟨⟨hB, ⟨hV, hM⟩, hK⟩, ⟨⟨r1, r2⟩, r3, r4, r5⟩, hI⟩ := h
  have h10 := hB.1.2
  have hm6 := hB.2.1.2
  have hc1 := hc.1.1
  refine ⟨⟨mv_bd hB t _, ⟨fun o ho => ?_, fun m hm => ?_⟩, fun c hc => by rw [upS_row (by omega)]; exact hK c hc⟩, ⟨⟨fun i hi => ?_, fun c hc => ?_⟩, fun o ho => ?_, fun j o hj hj6 ho => ?_, fun m hm => ?_⟩, hI⟩
  · rw [mv_tn, mv_mn] at ho
    by_cases q : o = t
    · subst q
      refine Or.inr ⟨c, (mv_gs _ _ _).mpr hc, ?_⟩
      unfold ybS; rw [mv_tn, if_pos ht, upS_self]
    · rw [mv_yb (Or.inl q)]
      rcases hV o ho with r | ⟨x, r1, r2⟩
      · exact Or.inl r
      · exact Or.inr ⟨x, (mv_gs _ _ _).mpr r1, r2⟩
  · rw [mv_mn] at hm; rw [upS_row (by omega)]; exact hM m hm
  · rw [upd_ap, if_neg (by omega), upS_row (by omega)]; exact r1 i hi
  · rw [upd_ap, if_neg (by omega), r2 c hc]; unfold kB; rw [upS_row (by omega)]
  · rw [mv_tn] at ho
    by_cases q : o = t
    · subst q
      rw [upd_ap, if_pos rfl, upS_self]
      exact ⟨fun _ => rfl, fun q => absurd q hg, fun q => absurd q (fun q => (nI_em (by omega)).mp q)⟩
    · rw [upd_ap, if_neg (by omega), upS_ne (by omega)]; exact r3 o ho
  · rw [mv_tn] at ho
    rw [upd_ap, if_neg (by omega), upS_row (by omega)]; exact r4 j o hj hj6 ho
  · rw [mv_mn] at hm
    rw [upd_ap, if_neg (by omega), upS_row (by omega)]; exact r5 m hm
/-- what is paid to a tent that stands elsewhere -/
theorem pyN_mv {t c : Nat} (hc : c < 1000) (htn : ¬ S 2 t = -1) : pyN (upS S 2 t (nI c)) L bs t = pyC S L bs t c := by
  have ki : ∀ a b, kiS (upS S 2 t (nI c)) a b ↔ kiS S a b := fun a b => by
    have k2 : ∀ a, (upS S 2 t (nI c) 2 a = -1 ↔ S 2 a = -1) := fun a => by
      by_cases q : a = t
      · subst q; rw [upS_self]; exact ⟨fun q => ((nI_em (by omega)).mp q).elim, fun q => absurd q htn⟩
      · rw [upS_ne (by omega)]
    unfold kiS
    rw [mv_tn, upS_row (a := 3) (by omega), k2, k2]
  have dn : ∀ a b, dN (upS S 2 t (nI c)) bs a b = dN S bs a b := fun a b => by unfold dN wayS; rw [mv_op]
  have fa : ∀ o y, (o = t ∨ kiS S o t) → faA (upS S 2 t (nI c)) bs o y = faA S bs o y := fun o y ho => by
    unfold faA
    rw [mv_tn, mv_mn]
    refine mnF_cong fun x _ => ?_
    unfold bdF
    by_cases q : x = t ∧ x < tn S
    · have : x = o ∨ ybS S x = -1 ∨ kiS S o x := by
        rcases ho with r | r
        · exact Or.inl (q.1.trans r.symm)
        · rw [q.1]; exact Or.inr (Or.inr r)
      rw [if_pos this]
      rw [if_pos]
      rcases ho with r | r
      · exact Or.inl (q.1.trans r.symm)
      · rw [q.1]; exact Or.inr (Or.inr ((ki o t).mpr r))
    · rw [mv_yb (by omega), dn]
      simp only [ki]
  have ne : neA (upS S 2 t (nI c)) bs t c = neA S bs t c := by
    unfold neA
    rw [mv_tn, mv_mn]
    refine cnt1_cong fun x _ => ?_
    unfold nrP
    by_cases q : x = t
    · exact ⟨fun r => absurd q r.1, fun r => absurd q r.1⟩
    · rw [mv_yb (Or.inl q), dn]
  have fk : fkN (upS S 2 t (nI c)) bs t = fkN S bs t := by
    unfold fkN
    rw [mv_tn]
    refine mnF_cong fun x _ => ?_
    unfold fkF
    by_cases q : kiS S x t
    · rw [if_pos q, if_pos ((ki x t).mpr q), fa x _ (Or.inr q), upS_ne (by have := q.1.1.1; omega)]
    · rw [if_neg q, if_neg (fun r => q ((ki x t).mp r))]
  have kn : knN (upS S 2 t (nI c)) t = knN S t := by
    unfold knN
    rw [cnt1_cong (fun x _ => ki x t), mv_tn]
  have fc : ∀ a b e, fcF (upS S 2 t (nI c)) c a b e = fcF S c a b e := fun a b e => by
    funext j
    unfold fcF edN wtN wdt hgt
    rw [upS_row (a := 0) (by omega), upS_row (a := 1) (by omega)]
  unfold pyN pyC payF
  rw [upS_self, nI_clamp (by omega), fk, fa t c (Or.inl rfl), ne, kn, fc]
theorem t9_payAt (hG : Ok G) (hd1 : 10 ≤ d) (hH : Hb S bs gn I W) (hL : WL W L) (hs : WyM S bs s) {t c : Nat} (ht : t < tn S) (hgt : ¬ nI t = gn) (hc : gsN S c) : Tr G d 184 [.ref 31, .int (nI t), .int (nI c)] n z (mM f0 I W A s) (Rr (nI (pyC S L bs t c)) n z f0 I W A S bs) := by
  obtain ⟨⟨hB, ⟨hV, hM⟩, hK⟩, h, hI⟩ := id hH
  have h10 := hB.1.2
  have e' := (h.2.1 t ht).2
  have hc1 := hc.1.1
  refine Tr.of2 (ls0 := [.ref 31, .int (nI t), .int (nI c), dead, dead]) hG mo_X9_payAt (Nat.le_of_ble_eq_true rfl) rfl ?_
  intro X hi hd hXn hXz hXf hQ
  refine wpC_sound (PC_ok hG _) (by rw [hi]; exact ok_X9_payAt) (hd := [19]) 400 _ _ _ _ _ _ ?_
  simp only [wp, stp, List.mem_cons, List.not_mem_nil, Nat.reduceEqDiff, or_false, or_self, false_or, or_true, true_or, Nat.reduceAdd, ↓reduceIte, List.getElem?_cons_zero, List.getElem?_cons_succ, nthV, List.set_cons_zero, List.set_cons_succ, noL, popA, catS, Value.category, List.length_cons, List.length_nil, Nat.reduceLT, Nat.reduceLeDiff, true_and, and_true, one0, zer1, imp_t, imp_f, ofN_nI, sdead, f20, f21, not_true_eq_false, upC_ap, upC_upC, retC, fitC, isRefT, Option.toList_some, Option.toList_none, List.cons_append, List.nil_append, Nat.lt_add_one, Nat.zero_lt_succ, Nat.le_refl, Nat.add_zero, Nat.zero_add, Nat.one_ne_zero, Nat.zero_ne_one, Nat.lt_irrefl, List.length_set, fa_X9_payAt, hi, hd, hQ, mr_X9_payAt, mM_31, mM_32, mM_33, mM_34, mM_35, mM_36, mM_37, mM_38, mM_39, mM_40, mM_41, mM_42, mM_43, mM_44, mM_45, mM_46, mM_47, mM_48, mu_31, mu_32, mu_33, mu_34, mu_35, mu_36, mu_37, mu_38, mu_39, mu_40, mu_41, mu_42, mu_43, mu_44, mu_45, mu_46, mu_47, mu_48, mO_len, mg_0, mg_1, mg_2, mg_3, mg_4, mg_5, mg_6, mg_7, mg_8, mg_9, mg_10, mg_11, mg_12, mg_13, mg_14, mg_15, mg_16, mg_17, mg_18, mg_19, mg_20, mg_21, mg_22, mg_23, mg_24, mg_25, mg_26, mg_27, mg_28, mg_29, mg_30, mg_31, mg_32, mg_33, mg_34, mg_35, ms_2, ms_8, ms_9, ms_10, ms_11, ms_12, ms_13, ms_14, ms_15, ms_16, ms_17, ms_18, ms_19, ms_22, ms_23, ms_32, ms_33, ms_34, ms_35, cN_0, vN_0, cN_1, vN_1, cN_2, vN_2, cN_3, vN_3, cN_4, vN_4, cN_5, vN_5, cN_6, vN_6, cN_7, vN_7, cN_8, vN_8, cN_9, vN_9, cN_190, vN_190, wpC, stpC, PC, PV, reduceCtorEq]
  try simp only [m1f]
  try simp (disch := omega) only [nmod, nI_leI, nI_ltI, nI_eq, nI_clamp, vin_nI, nI_1, fa_lit, nI_add, nI_rm3, nI_rm2, pk_rem, pk_mul, pk_sub, pk_div, nI_eM, nI_Me, nI_pM, nI_pMz, nI_pM0, M1_lt, M1_le, nI_ltM, nI_leM, i8_nI, true_and, and_true, false_implies, true_implies, not_false_eq_true, not_true_eq_false, ne_eq, implies_true, Nat.not_lt_zero, Nat.zero_le, ite_min, max0, Nat.reduceLT, Nat.reduceLeDiff, Nat.reduceEqDiff, Nat.reduceAdd, Nat.reduceMul, Nat.add_zero, Nat.zero_add]
  try simp only [m1u]
  have hW' : WL (upd W (120 + 6 * t) (nI c)) L := hL.cong (fun i hi => by rw [upd_ap, if_neg (by omega)])
  refine ⟨by omega, by omega, by omega, by omega, by omega, _, t9_payOf hG (by omega) (hH.mv ht hc hgt) hW' (hs.cg (mv_op t _)) (by rw [mv_tn]; exact ht) hgt, ?_⟩
  rintro v n1 z1 f1 ⟨rfl, rfl, rfl, s', rfl, hs'⟩
  refine wpC_sound (PC_ok hG _) (by rw [hi]; exact ok_X9_payAt) (hd := [19]) 400 _ _ _ _ _ _ ?_
  simp only [wp, stp, List.mem_cons, List.not_mem_nil, Nat.reduceEqDiff, or_false, or_self, false_or, or_true, true_or, Nat.reduceAdd, ↓reduceIte, List.getElem?_cons_zero, List.getElem?_cons_succ, nthV, List.set_cons_zero, List.set_cons_succ, noL, popA, catS, Value.category, List.length_cons, List.length_nil, Nat.reduceLT, Nat.reduceLeDiff, true_and, and_true, one0, zer1, imp_t, imp_f, ofN_nI, sdead, f20, f21, not_true_eq_false, upC_ap, upC_upC, retC, fitC, isRefT, Option.toList_some, Option.toList_none, List.cons_append, List.nil_append, Nat.lt_add_one, Nat.zero_lt_succ, Nat.le_refl, Nat.add_zero, Nat.zero_add, Nat.one_ne_zero, Nat.zero_ne_one, Nat.lt_irrefl, List.length_set, fa_X9_payAt, hi, hd, hQ, mr_X9_payAt, mM_31, mM_32, mM_33, mM_34, mM_35, mM_36, mM_37, mM_38, mM_39, mM_40, mM_41, mM_42, mM_43, mM_44, mM_45, mM_46, mM_47, mM_48, mu_31, mu_32, mu_33, mu_34, mu_35, mu_36, mu_37, mu_38, mu_39, mu_40, mu_41, mu_42, mu_43, mu_44, mu_45, mu_46, mu_47, mu_48, mO_len, mg_0, mg_1, mg_2, mg_3, mg_4, mg_5, mg_6, mg_7, mg_8, mg_9, mg_10, mg_11, mg_12, mg_13, mg_14, mg_15, mg_16, mg_17, mg_18, mg_19, mg_20, mg_21, mg_22, mg_23, mg_24, mg_25, mg_26, mg_27, mg_28, mg_29, mg_30, mg_31, mg_32, mg_33, mg_34, mg_35, ms_2, ms_8, ms_9, ms_10, ms_11, ms_12, ms_13, ms_14, ms_15, ms_16, ms_17, ms_18, ms_19, ms_22, ms_23, ms_32, ms_33, ms_34, ms_35, cN_0, vN_0, cN_1, vN_1, cN_2, vN_2, cN_3, vN_3, cN_4, vN_4, cN_5, vN_5, cN_6, vN_6, cN_7, vN_7, cN_8, vN_8, cN_9, vN_9, cN_190, vN_190, wpC, stpC, PC, PV, reduceCtorEq]
  try simp only [m1f]
  try simp (disch := omega) only [nmod, nI_leI, nI_ltI, nI_eq, nI_clamp, vin_nI, nI_1, fa_lit, nI_add, nI_rm3, nI_rm2, pk_rem, pk_mul, pk_sub, pk_div, nI_eM, nI_Me, nI_pM, nI_pMz, nI_pM0, M1_lt, M1_le, nI_ltM, nI_leM, i8_nI, true_and, and_true, false_implies, true_implies, not_false_eq_true, not_true_eq_false, ne_eq, implies_true, Nat.not_lt_zero, Nat.zero_le, ite_min, max0, Nat.reduceLT, Nat.reduceLeDiff, Nat.reduceEqDiff, Nat.reduceAdd, Nat.reduceMul, Nat.add_zero, Nat.zero_add]
  try simp only [m1u]
  refine ⟨by omega, by omega, ?_⟩
  rw [upd_id]
  exact Rr.i (by rw [pyN_mv (by omega) (fun q => hgt (e'.mpr q))]) (hs'.cg (mv_op t _).symm)
/-- the first best of some yards -/
theorem t9_where (hG : Ok G) (hd1 : 11 ≤ d) (hH : Hb S bs (-1) I W) (hL : WL W L) (hs : WyM S bs s) {t : Nat} (ht : t < tn S) : Tr G d 185 [.ref 31, .int (nI t)] n z (mM f0 I W A s) (Rr (eO ((amx (fun c => csN S t c) (pyC S L bs t) 100).map Prod.fst)) n z f0 I W A S bs) := by
  obtain ⟨⟨hB, ⟨hV, hM⟩, hK⟩, h, hI⟩ := id hH
  have h10 := hB.1.2
  have hgt : ¬ nI t = -1 := fun q => (nI_em (by omega)).mp q
  refine Tr.of2 (ls0 := [.ref 31, .int (nI t), dead, dead, dead, dead]) hG mo_X9_where (Nat.le_of_ble_eq_true rfl) rfl ?_
  intro X hi hd hXn hXz hXf hQ
  have loop : ∀ j k s u5, k + j = 100 → WyM S bs s → V G X 7 [.ref 31, .int (nI t), .int (eO ((amx (fun c => csN S t c) (pyC S L bs t) k).map Prod.fst)), .int (nI (mvl (amx (fun c => csN S t c) (pyC S L bs t) k))), .int (nI k), u5] [] n z (mM f0 I W A s) := by
    intro j
    induction j with
    | zero =>
      intro k s u5 hk hs
      have : k = 100 := by omega
      subst this
      refine wpC_sound (PC_ok hG _) (by rw [hi]; exact ok_X9_where) (hd := [7, 21, 34]) 400 _ _ _ _ _ _ ?_
      simp only [wp, stp, List.mem_cons, List.not_mem_nil, Nat.reduceEqDiff, or_false, or_self, false_or, or_true, true_or, Nat.reduceAdd, ↓reduceIte, List.getElem?_cons_zero, List.getElem?_cons_succ, nthV, List.set_cons_zero, List.set_cons_succ, noL, popA, catS, Value.category, List.length_cons, List.length_nil, Nat.reduceLT, Nat.reduceLeDiff, true_and, and_true, one0, zer1, imp_t, imp_f, ofN_nI, sdead, f20, f21, not_true_eq_false, upC_ap, upC_upC, retC, fitC, isRefT, Option.toList_some, Option.toList_none, List.cons_append, List.nil_append, Nat.lt_add_one, Nat.zero_lt_succ, Nat.le_refl, Nat.add_zero, Nat.zero_add, Nat.one_ne_zero, Nat.zero_ne_one, Nat.lt_irrefl, List.length_set, fa_X9_where, hi, hd, hQ, mr_X9_where, mM_31, mM_32, mM_33, mM_34, mM_35, mM_36, mM_37, mM_38, mM_39, mM_40, mM_41, mM_42, mM_43, mM_44, mM_45, mM_46, mM_47, mM_48, mu_31, mu_32, mu_33, mu_34, mu_35, mu_36, mu_37, mu_38, mu_39, mu_40, mu_41, mu_42, mu_43, mu_44, mu_45, mu_46, mu_47, mu_48, mO_len, mg_0, mg_1, mg_2, mg_3, mg_4, mg_5, mg_6, mg_7, mg_8, mg_9, mg_10, mg_11, mg_12, mg_13, mg_14, mg_15, mg_16, mg_17, mg_18, mg_19, mg_20, mg_21, mg_22, mg_23, mg_24, mg_25, mg_26, mg_27, mg_28, mg_29, mg_30, mg_31, mg_32, mg_33, mg_34, mg_35, ms_2, ms_8, ms_9, ms_10, ms_11, ms_12, ms_13, ms_14, ms_15, ms_16, ms_17, ms_18, ms_19, ms_22, ms_23, ms_32, ms_33, ms_34, ms_35, cN_0, vN_0, cN_1, vN_1, cN_2, vN_2, cN_3, vN_3, cN_4, vN_4, cN_5, vN_5, cN_6, vN_6, cN_7, vN_7, cN_8, vN_8, cN_9, vN_9, cN_190, vN_190, wpC, stpC, PC, PV, reduceCtorEq]
      try simp only [m1f]
      try simp (disch := omega) only [nmod, nI_leI, nI_ltI, nI_eq, nI_clamp, vin_nI, nI_1, fa_lit, nI_add, nI_rm3, nI_rm2, pk_rem, pk_mul, pk_sub, pk_div, nI_eM, nI_Me, nI_pM, nI_pMz, nI_pM0, M1_lt, M1_le, nI_ltM, nI_leM, i8_nI, true_and, and_true, false_implies, true_implies, not_false_eq_true, not_true_eq_false, ne_eq, implies_true, Nat.not_lt_zero, Nat.zero_le, ite_min, max0, Nat.reduceLT, Nat.reduceLeDiff, Nat.reduceEqDiff, Nat.reduceAdd, Nat.reduceMul, Nat.add_zero, Nat.zero_add]
      try simp only [m1u]
      exact Rr.i rfl hs
    | succ j ih =>
      intro k s u5 hk hs
      have hk1 : ¬ 100 ≤ k := by omega
      have L56 : ∀ s u5, WyM S bs s → amx (fun c => csN S t c) (pyC S L bs t) (k + 1) = amx (fun c => csN S t c) (pyC S L bs t) k → V G X 56 [.ref 31, .int (nI t), .int (eO ((amx (fun c => csN S t c) (pyC S L bs t) k).map Prod.fst)), .int (nI (mvl (amx (fun c => csN S t c) (pyC S L bs t) k))), .int (nI k), u5] [] n z (mM f0 I W A s) := by
        intro s u5 hs he
        refine wpC_sound (PC_ok hG _) (by rw [hi]; exact ok_X9_where) (hd := [7, 21, 34]) 400 _ _ _ _ _ _ ?_
        simp only [wp, stp, List.mem_cons, List.not_mem_nil, Nat.reduceEqDiff, or_false, or_self, false_or, or_true, true_or, Nat.reduceAdd, ↓reduceIte, List.getElem?_cons_zero, List.getElem?_cons_succ, nthV, List.set_cons_zero, List.set_cons_succ, noL, popA, catS, Value.category, List.length_cons, List.length_nil, Nat.reduceLT, Nat.reduceLeDiff, true_and, and_true, one0, zer1, imp_t, imp_f, ofN_nI, sdead, f20, f21, not_true_eq_false, upC_ap, upC_upC, retC, fitC, isRefT, Option.toList_some, Option.toList_none, List.cons_append, List.nil_append, Nat.lt_add_one, Nat.zero_lt_succ, Nat.le_refl, Nat.add_zero, Nat.zero_add, Nat.one_ne_zero, Nat.zero_ne_one, Nat.lt_irrefl, List.length_set, fa_X9_where, hi, hd, hQ, mr_X9_where, mM_31, mM_32, mM_33, mM_34, mM_35, mM_36, mM_37, mM_38, mM_39, mM_40, mM_41, mM_42, mM_43, mM_44, mM_45, mM_46, mM_47, mM_48, mu_31, mu_32, mu_33, mu_34, mu_35, mu_36, mu_37, mu_38, mu_39, mu_40, mu_41, mu_42, mu_43, mu_44, mu_45, mu_46, mu_47, mu_48, mO_len, mg_0, mg_1, mg_2, mg_3, mg_4, mg_5, mg_6, mg_7, mg_8, mg_9, mg_10, mg_11, mg_12, mg_13, mg_14, mg_15, mg_16, mg_17, mg_18, mg_19, mg_20, mg_21, mg_22, mg_23, mg_24, mg_25, mg_26, mg_27, mg_28, mg_29, mg_30, mg_31, mg_32, mg_33, mg_34, mg_35, ms_2, ms_8, ms_9, ms_10, ms_11, ms_12, ms_13, ms_14, ms_15, ms_16, ms_17, ms_18, ms_19, ms_22, ms_23, ms_32, ms_33, ms_34, ms_35, cN_0, vN_0, cN_1, vN_1, cN_2, vN_2, cN_3, vN_3, cN_4, vN_4, cN_5, vN_5, cN_6, vN_6, cN_7, vN_7, cN_8, vN_8, cN_9, vN_9, cN_190, vN_190, wpC, stpC, PC, PV, reduceCtorEq]
        try simp only [m1f]
        try simp (disch := omega) only [nmod, nI_leI, nI_ltI, nI_eq, nI_clamp, vin_nI, nI_1, fa_lit, nI_add, nI_rm3, nI_rm2, pk_rem, pk_mul, pk_sub, pk_div, nI_eM, nI_Me, nI_pM, nI_pMz, nI_pM0, M1_lt, M1_le, nI_ltM, nI_leM, i8_nI, true_and, and_true, false_implies, true_implies, not_false_eq_true, not_true_eq_false, ne_eq, implies_true, Nat.not_lt_zero, Nat.zero_le, ite_min, max0, Nat.reduceLT, Nat.reduceLeDiff, Nat.reduceEqDiff, Nat.reduceAdd, Nat.reduceMul, Nat.add_zero, Nat.zero_add]
        try simp only [m1u]
        have := ih (k + 1) s u5 (by omega) hs
        rw [he] at this
        exact this
      refine wpC_sound (PC_ok hG _) (by rw [hi]; exact ok_X9_where) (hd := [7, 21, 34, 56]) 400 _ _ _ _ _ _ ?_
      simp only [wp, stp, List.mem_cons, List.not_mem_nil, Nat.reduceEqDiff, or_false, or_self, false_or, or_true, true_or, Nat.reduceAdd, ↓reduceIte, List.getElem?_cons_zero, List.getElem?_cons_succ, nthV, List.set_cons_zero, List.set_cons_succ, noL, popA, catS, Value.category, List.length_cons, List.length_nil, Nat.reduceLT, Nat.reduceLeDiff, true_and, and_true, one0, zer1, imp_t, imp_f, ofN_nI, sdead, f20, f21, not_true_eq_false, upC_ap, upC_upC, retC, fitC, isRefT, Option.toList_some, Option.toList_none, List.cons_append, List.nil_append, Nat.lt_add_one, Nat.zero_lt_succ, Nat.le_refl, Nat.add_zero, Nat.zero_add, Nat.one_ne_zero, Nat.zero_ne_one, Nat.lt_irrefl, List.length_set, fa_X9_where, hi, hd, hQ, mr_X9_where, hk1, mM_31, mM_32, mM_33, mM_34, mM_35, mM_36, mM_37, mM_38, mM_39, mM_40, mM_41, mM_42, mM_43, mM_44, mM_45, mM_46, mM_47, mM_48, mu_31, mu_32, mu_33, mu_34, mu_35, mu_36, mu_37, mu_38, mu_39, mu_40, mu_41, mu_42, mu_43, mu_44, mu_45, mu_46, mu_47, mu_48, mO_len, mg_0, mg_1, mg_2, mg_3, mg_4, mg_5, mg_6, mg_7, mg_8, mg_9, mg_10, mg_11, mg_12, mg_13, mg_14, mg_15, mg_16, mg_17, mg_18, mg_19, mg_20, mg_21, mg_22, mg_23, mg_24, mg_25, mg_26, mg_27, mg_28, mg_29, mg_30, mg_31, mg_32, mg_33, mg_34, mg_35, ms_2, ms_8, ms_9, ms_10, ms_11, ms_12, ms_13, ms_14, ms_15, ms_16, ms_17, ms_18, ms_19, ms_22, ms_23, ms_32, ms_33, ms_34, ms_35, cN_0, vN_0, cN_1, vN_1, cN_2, vN_2, cN_3, vN_3, cN_4, vN_4, cN_5, vN_5, cN_6, vN_6, cN_7, vN_7, cN_8, vN_8, cN_9, vN_9, cN_190, vN_190, wpC, stpC, PC, PV, reduceCtorEq]
      try simp only [m1f]
      try simp (disch := omega) only [nmod, nI_leI, nI_ltI, nI_eq, nI_clamp, vin_nI, nI_1, fa_lit, nI_add, nI_rm3, nI_rm2, pk_rem, pk_mul, pk_sub, pk_div, nI_eM, nI_Me, nI_pM, nI_pMz, nI_pM0, M1_lt, M1_le, nI_ltM, nI_leM, i8_nI, true_and, and_true, false_implies, true_implies, not_false_eq_true, not_true_eq_false, ne_eq, implies_true, Nat.not_lt_zero, Nat.zero_le, ite_min, max0, Nat.reduceLT, Nat.reduceLeDiff, Nat.reduceEqDiff, Nat.reduceAdd, Nat.reduceMul, Nat.add_zero, Nat.zero_add, hk1]
      try simp only [m1u]
      refine ⟨by omega, _, t9_couldStand hG (by omega) hB h ht (nI k), ?_⟩
      rintro v n1 z1 f1 ⟨rfl, rfl, rfl, rfl⟩
      by_cases hcs : csN S t k
      · rw [bI_t hcs]
        have hgk : gsN S k := (gr_gs hB (by omega)).mp hcs.1.1
        refine wpC_sound (PC_ok hG _) (by rw [hi]; exact ok_X9_where) (hd := [7, 21, 34, 56]) 400 _ _ _ _ _ _ ?_
        simp only [wp, stp, List.mem_cons, List.not_mem_nil, Nat.reduceEqDiff, or_false, or_self, false_or, or_true, true_or, Nat.reduceAdd, ↓reduceIte, List.getElem?_cons_zero, List.getElem?_cons_succ, nthV, List.set_cons_zero, List.set_cons_succ, noL, popA, catS, Value.category, List.length_cons, List.length_nil, Nat.reduceLT, Nat.reduceLeDiff, true_and, and_true, one0, zer1, imp_t, imp_f, ofN_nI, sdead, f20, f21, not_true_eq_false, upC_ap, upC_upC, retC, fitC, isRefT, Option.toList_some, Option.toList_none, List.cons_append, List.nil_append, Nat.lt_add_one, Nat.zero_lt_succ, Nat.le_refl, Nat.add_zero, Nat.zero_add, Nat.one_ne_zero, Nat.zero_ne_one, Nat.lt_irrefl, List.length_set, fa_X9_where, hi, hd, hQ, mr_X9_where, mM_31, mM_32, mM_33, mM_34, mM_35, mM_36, mM_37, mM_38, mM_39, mM_40, mM_41, mM_42, mM_43, mM_44, mM_45, mM_46, mM_47, mM_48, mu_31, mu_32, mu_33, mu_34, mu_35, mu_36, mu_37, mu_38, mu_39, mu_40, mu_41, mu_42, mu_43, mu_44, mu_45, mu_46, mu_47, mu_48, mO_len, mg_0, mg_1, mg_2, mg_3, mg_4, mg_5, mg_6, mg_7, mg_8, mg_9, mg_10, mg_11, mg_12, mg_13, mg_14, mg_15, mg_16, mg_17, mg_18, mg_19, mg_20, mg_21, mg_22, mg_23, mg_24, mg_25, mg_26, mg_27, mg_28, mg_29, mg_30, mg_31, mg_32, mg_33, mg_34, mg_35, ms_2, ms_8, ms_9, ms_10, ms_11, ms_12, ms_13, ms_14, ms_15, ms_16, ms_17, ms_18, ms_19, ms_22, ms_23, ms_32, ms_33, ms_34, ms_35, cN_0, vN_0, cN_1, vN_1, cN_2, vN_2, cN_3, vN_3, cN_4, vN_4, cN_5, vN_5, cN_6, vN_6, cN_7, vN_7, cN_8, vN_8, cN_9, vN_9, cN_190, vN_190, wpC, stpC, PC, PV, reduceCtorEq]
        try simp only [m1f]
        try simp (disch := omega) only [nmod, nI_leI, nI_ltI, nI_eq, nI_clamp, vin_nI, nI_1, fa_lit, nI_add, nI_rm3, nI_rm2, pk_rem, pk_mul, pk_sub, pk_div, nI_eM, nI_Me, nI_pM, nI_pMz, nI_pM0, M1_lt, M1_le, nI_ltM, nI_leM, i8_nI, true_and, and_true, false_implies, true_implies, not_false_eq_true, not_true_eq_false, ne_eq, implies_true, Nat.not_lt_zero, Nat.zero_le, ite_min, max0, Nat.reduceLT, Nat.reduceLeDiff, Nat.reduceEqDiff, Nat.reduceAdd, Nat.reduceMul, Nat.add_zero, Nat.zero_add]
        try simp only [m1u]
        refine ⟨by omega, _, t9_payAt hG (by omega) hH hL hs ht hgt hgk, ?_⟩
        rintro v n1 z1 f1 ⟨rfl, rfl, rfl, s', rfl, hs'⟩
        have h9 : pyC S L bs t k ≤ 9999 := payF_le _ _ _ _ _ _
        have L50 : ∀ u2 u3, amx (fun c => csN S t c) (pyC S L bs t) (k + 1) = some (k, pyC S L bs t k) → V G X 50 [.ref 31, .int (nI t), u2, u3, .int (nI k), .int (nI (pyC S L bs t k))] [] n1 z1 (mM f0 I W A s') := by
          intro u2 u3 he
          refine wpC_sound (PC_ok hG _) (by rw [hi]; exact ok_X9_where) (hd := [7, 21, 34]) 400 _ _ _ _ _ _ ?_
          simp only [wp, stp, List.mem_cons, List.not_mem_nil, Nat.reduceEqDiff, or_false, or_self, false_or, or_true, true_or, Nat.reduceAdd, ↓reduceIte, List.getElem?_cons_zero, List.getElem?_cons_succ, nthV, List.set_cons_zero, List.set_cons_succ, noL, popA, catS, Value.category, List.length_cons, List.length_nil, Nat.reduceLT, Nat.reduceLeDiff, true_and, and_true, one0, zer1, imp_t, imp_f, ofN_nI, sdead, f20, f21, not_true_eq_false, upC_ap, upC_upC, retC, fitC, isRefT, Option.toList_some, Option.toList_none, List.cons_append, List.nil_append, Nat.lt_add_one, Nat.zero_lt_succ, Nat.le_refl, Nat.add_zero, Nat.zero_add, Nat.one_ne_zero, Nat.zero_ne_one, Nat.lt_irrefl, List.length_set, fa_X9_where, hi, hd, hQ, mr_X9_where, mM_31, mM_32, mM_33, mM_34, mM_35, mM_36, mM_37, mM_38, mM_39, mM_40, mM_41, mM_42, mM_43, mM_44, mM_45, mM_46, mM_47, mM_48, mu_31, mu_32, mu_33, mu_34, mu_35, mu_36, mu_37, mu_38, mu_39, mu_40, mu_41, mu_42, mu_43, mu_44, mu_45, mu_46, mu_47, mu_48, mO_len, mg_0, mg_1, mg_2, mg_3, mg_4, mg_5, mg_6, mg_7, mg_8, mg_9, mg_10, mg_11, mg_12, mg_13, mg_14, mg_15, mg_16, mg_17, mg_18, mg_19, mg_20, mg_21, mg_22, mg_23, mg_24, mg_25, mg_26, mg_27, mg_28, mg_29, mg_30, mg_31, mg_32, mg_33, mg_34, mg_35, ms_2, ms_8, ms_9, ms_10, ms_11, ms_12, ms_13, ms_14, ms_15, ms_16, ms_17, ms_18, ms_19, ms_22, ms_23, ms_32, ms_33, ms_34, ms_35, cN_0, vN_0, cN_1, vN_1, cN_2, vN_2, cN_3, vN_3, cN_4, vN_4, cN_5, vN_5, cN_6, vN_6, cN_7, vN_7, cN_8, vN_8, cN_9, vN_9, cN_190, vN_190, wpC, stpC, PC, PV, reduceCtorEq]
          try simp only [m1f]
          try simp (disch := omega) only [nmod, nI_leI, nI_ltI, nI_eq, nI_clamp, vin_nI, nI_1, fa_lit, nI_add, nI_rm3, nI_rm2, pk_rem, pk_mul, pk_sub, pk_div, nI_eM, nI_Me, nI_pM, nI_pMz, nI_pM0, M1_lt, M1_le, nI_ltM, nI_leM, i8_nI, true_and, and_true, false_implies, true_implies, not_false_eq_true, not_true_eq_false, ne_eq, implies_true, Nat.not_lt_zero, Nat.zero_le, ite_min, max0, Nat.reduceLT, Nat.reduceLeDiff, Nat.reduceEqDiff, Nat.reduceAdd, Nat.reduceMul, Nat.add_zero, Nat.zero_add]
          try simp only [m1u]
          have := ih (k + 1) s' (.int (nI (pyC S L bs t k))) (by omega) hs'
          rw [he] at this
          exact this
        cases hr : amx (fun c => csN S t c) (pyC S L bs t) k with
        | none =>
          rw [hr] at L56
          refine wpC_sound (PC_ok hG _) (by rw [hi]; exact ok_X9_where) (hd := [7, 21, 34, 50, 56]) 400 _ _ _ _ _ _ ?_
          simp only [wp, stp, List.mem_cons, List.not_mem_nil, Nat.reduceEqDiff, or_false, or_self, false_or, or_true, true_or, Nat.reduceAdd, ↓reduceIte, List.getElem?_cons_zero, List.getElem?_cons_succ, nthV, List.set_cons_zero, List.set_cons_succ, noL, popA, catS, Value.category, List.length_cons, List.length_nil, Nat.reduceLT, Nat.reduceLeDiff, true_and, and_true, one0, zer1, imp_t, imp_f, ofN_nI, sdead, f20, f21, not_true_eq_false, upC_ap, upC_upC, retC, fitC, isRefT, Option.toList_some, Option.toList_none, List.cons_append, List.nil_append, Nat.lt_add_one, Nat.zero_lt_succ, Nat.le_refl, Nat.add_zero, Nat.zero_add, Nat.one_ne_zero, Nat.zero_ne_one, Nat.lt_irrefl, List.length_set, fa_X9_where, hi, hd, hQ, mr_X9_where, hr, Option.map_none, eO_n, mM_31, mM_32, mM_33, mM_34, mM_35, mM_36, mM_37, mM_38, mM_39, mM_40, mM_41, mM_42, mM_43, mM_44, mM_45, mM_46, mM_47, mM_48, mu_31, mu_32, mu_33, mu_34, mu_35, mu_36, mu_37, mu_38, mu_39, mu_40, mu_41, mu_42, mu_43, mu_44, mu_45, mu_46, mu_47, mu_48, mO_len, mg_0, mg_1, mg_2, mg_3, mg_4, mg_5, mg_6, mg_7, mg_8, mg_9, mg_10, mg_11, mg_12, mg_13, mg_14, mg_15, mg_16, mg_17, mg_18, mg_19, mg_20, mg_21, mg_22, mg_23, mg_24, mg_25, mg_26, mg_27, mg_28, mg_29, mg_30, mg_31, mg_32, mg_33, mg_34, mg_35, ms_2, ms_8, ms_9, ms_10, ms_11, ms_12, ms_13, ms_14, ms_15, ms_16, ms_17, ms_18, ms_19, ms_22, ms_23, ms_32, ms_33, ms_34, ms_35, cN_0, vN_0, cN_1, vN_1, cN_2, vN_2, cN_3, vN_3, cN_4, vN_4, cN_5, vN_5, cN_6, vN_6, cN_7, vN_7, cN_8, vN_8, cN_9, vN_9, cN_190, vN_190, wpC, stpC, PC, PV, reduceCtorEq]
          exact fun _ => L50 _ _ (amx_yes hcs (fun q hq => by rw [hr] at hq; cases hq))
        | some q =>
          have hq1 := (amx_in hr).1
          have hq2 := (amx_in hr).2.2
          have hq9 : q.2 ≤ 9999 := by rw [hq2]; exact payF_le _ _ _ _ _ _
          rw [hr] at L56
          refine wpC_sound (PC_ok hG _) (by rw [hi]; exact ok_X9_where) (hd := [7, 21, 34, 50, 56]) 400 _ _ _ _ _ _ ?_
          simp only [wp, stp, List.mem_cons, List.not_mem_nil, Nat.reduceEqDiff, or_false, or_self, false_or, or_true, true_or, Nat.reduceAdd, ↓reduceIte, List.getElem?_cons_zero, List.getElem?_cons_succ, nthV, List.set_cons_zero, List.set_cons_succ, noL, popA, catS, Value.category, List.length_cons, List.length_nil, Nat.reduceLT, Nat.reduceLeDiff, true_and, and_true, one0, zer1, imp_t, imp_f, ofN_nI, sdead, f20, f21, not_true_eq_false, upC_ap, upC_upC, retC, fitC, isRefT, Option.toList_some, Option.toList_none, List.cons_append, List.nil_append, Nat.lt_add_one, Nat.zero_lt_succ, Nat.le_refl, Nat.add_zero, Nat.zero_add, Nat.one_ne_zero, Nat.zero_ne_one, Nat.lt_irrefl, List.length_set, fa_X9_where, hi, hd, hQ, mr_X9_where, hr, Option.map_some, eO_s, mvl, mM_31, mM_32, mM_33, mM_34, mM_35, mM_36, mM_37, mM_38, mM_39, mM_40, mM_41, mM_42, mM_43, mM_44, mM_45, mM_46, mM_47, mM_48, mu_31, mu_32, mu_33, mu_34, mu_35, mu_36, mu_37, mu_38, mu_39, mu_40, mu_41, mu_42, mu_43, mu_44, mu_45, mu_46, mu_47, mu_48, mO_len, mg_0, mg_1, mg_2, mg_3, mg_4, mg_5, mg_6, mg_7, mg_8, mg_9, mg_10, mg_11, mg_12, mg_13, mg_14, mg_15, mg_16, mg_17, mg_18, mg_19, mg_20, mg_21, mg_22, mg_23, mg_24, mg_25, mg_26, mg_27, mg_28, mg_29, mg_30, mg_31, mg_32, mg_33, mg_34, mg_35, ms_2, ms_8, ms_9, ms_10, ms_11, ms_12, ms_13, ms_14, ms_15, ms_16, ms_17, ms_18, ms_19, ms_22, ms_23, ms_32, ms_33, ms_34, ms_35, cN_0, vN_0, cN_1, vN_1, cN_2, vN_2, cN_3, vN_3, cN_4, vN_4, cN_5, vN_5, cN_6, vN_6, cN_7, vN_7, cN_8, vN_8, cN_9, vN_9, cN_190, vN_190, wpC, stpC, PC, PV, reduceCtorEq]
          try simp only [m1f]
          try simp (disch := omega) only [nmod, nI_leI, nI_ltI, nI_eq, nI_clamp, vin_nI, nI_1, fa_lit, nI_add, nI_rm3, nI_rm2, pk_rem, pk_mul, pk_sub, pk_div, nI_eM, nI_Me, nI_pM, nI_pMz, nI_pM0, M1_lt, M1_le, nI_ltM, nI_leM, i8_nI, true_and, and_true, false_implies, true_implies, not_false_eq_true, not_true_eq_false, ne_eq, implies_true, Nat.not_lt_zero, Nat.zero_le, ite_min, max0, Nat.reduceLT, Nat.reduceLeDiff, Nat.reduceEqDiff, Nat.reduceAdd, Nat.reduceMul, Nat.add_zero, Nat.zero_add, hr, Option.map_some, eO_s, mvl]
          try simp only [m1u]
          exact ⟨fun q1 => L50 _ _ (amx_yes hcs (fun q' hq' => by rw [hr] at hq'; cases hq'; exact q1)), fun q1 => L56 s' _ hs' ((amx_no (fun _ => ⟨q, hr, by omega⟩)).trans hr)⟩
      · rw [bI_f hcs]
        refine wpC_sound (PC_ok hG _) (by rw [hi]; exact ok_X9_where) (hd := [7, 21, 34, 56]) 400 _ _ _ _ _ _ ?_
        simp only [wp, stp, List.mem_cons, List.not_mem_nil, Nat.reduceEqDiff, or_false, or_self, false_or, or_true, true_or, Nat.reduceAdd, ↓reduceIte, List.getElem?_cons_zero, List.getElem?_cons_succ, nthV, List.set_cons_zero, List.set_cons_succ, noL, popA, catS, Value.category, List.length_cons, List.length_nil, Nat.reduceLT, Nat.reduceLeDiff, true_and, and_true, one0, zer1, imp_t, imp_f, ofN_nI, sdead, f20, f21, not_true_eq_false, upC_ap, upC_upC, retC, fitC, isRefT, Option.toList_some, Option.toList_none, List.cons_append, List.nil_append, Nat.lt_add_one, Nat.zero_lt_succ, Nat.le_refl, Nat.add_zero, Nat.zero_add, Nat.one_ne_zero, Nat.zero_ne_one, Nat.lt_irrefl, List.length_set, fa_X9_where, hi, hd, hQ, mr_X9_where, mM_31, mM_32, mM_33, mM_34, mM_35, mM_36, mM_37, mM_38, mM_39, mM_40, mM_41, mM_42, mM_43, mM_44, mM_45, mM_46, mM_47, mM_48, mu_31, mu_32, mu_33, mu_34, mu_35, mu_36, mu_37, mu_38, mu_39, mu_40, mu_41, mu_42, mu_43, mu_44, mu_45, mu_46, mu_47, mu_48, mO_len, mg_0, mg_1, mg_2, mg_3, mg_4, mg_5, mg_6, mg_7, mg_8, mg_9, mg_10, mg_11, mg_12, mg_13, mg_14, mg_15, mg_16, mg_17, mg_18, mg_19, mg_20, mg_21, mg_22, mg_23, mg_24, mg_25, mg_26, mg_27, mg_28, mg_29, mg_30, mg_31, mg_32, mg_33, mg_34, mg_35, ms_2, ms_8, ms_9, ms_10, ms_11, ms_12, ms_13, ms_14, ms_15, ms_16, ms_17, ms_18, ms_19, ms_22, ms_23, ms_32, ms_33, ms_34, ms_35, cN_0, vN_0, cN_1, vN_1, cN_2, vN_2, cN_3, vN_3, cN_4, vN_4, cN_5, vN_5, cN_6, vN_6, cN_7, vN_7, cN_8, vN_8, cN_9, vN_9, cN_190, vN_190, wpC, stpC, PC, PV, reduceCtorEq]
        try simp only [m1f]
        try simp (disch := omega) only [nmod, nI_leI, nI_ltI, nI_eq, nI_clamp, vin_nI, nI_1, fa_lit, nI_add, nI_rm3, nI_rm2, pk_rem, pk_mul, pk_sub, pk_div, nI_eM, nI_Me, nI_pM, nI_pMz, nI_pM0, M1_lt, M1_le, nI_ltM, nI_leM, i8_nI, true_and, and_true, false_implies, true_implies, not_false_eq_true, not_true_eq_false, ne_eq, implies_true, Nat.not_lt_zero, Nat.zero_le, ite_min, max0, Nat.reduceLT, Nat.reduceLeDiff, Nat.reduceEqDiff, Nat.reduceAdd, Nat.reduceMul, Nat.add_zero, Nat.zero_add]
        try simp only [m1u]
        exact L56 _ _ hs (amx_no (fun q => absurd q hcs))
  refine wpC_sound (PC_ok hG _) (by rw [hi]; exact ok_X9_where) (hd := [7, 21, 34]) 400 _ _ _ _ _ _ ?_
  simp only [wp, stp, List.mem_cons, List.not_mem_nil, Nat.reduceEqDiff, or_false, or_self, false_or, or_true, true_or, Nat.reduceAdd, ↓reduceIte, List.getElem?_cons_zero, List.getElem?_cons_succ, nthV, List.set_cons_zero, List.set_cons_succ, noL, popA, catS, Value.category, List.length_cons, List.length_nil, Nat.reduceLT, Nat.reduceLeDiff, true_and, and_true, one0, zer1, imp_t, imp_f, ofN_nI, sdead, f20, f21, not_true_eq_false, upC_ap, upC_upC, retC, fitC, isRefT, Option.toList_some, Option.toList_none, List.cons_append, List.nil_append, Nat.lt_add_one, Nat.zero_lt_succ, Nat.le_refl, Nat.add_zero, Nat.zero_add, Nat.one_ne_zero, Nat.zero_ne_one, Nat.lt_irrefl, List.length_set, fa_X9_where, hi, hd, hQ, mr_X9_where, mM_31, mM_32, mM_33, mM_34, mM_35, mM_36, mM_37, mM_38, mM_39, mM_40, mM_41, mM_42, mM_43, mM_44, mM_45, mM_46, mM_47, mM_48, mu_31, mu_32, mu_33, mu_34, mu_35, mu_36, mu_37, mu_38, mu_39, mu_40, mu_41, mu_42, mu_43, mu_44, mu_45, mu_46, mu_47, mu_48, mO_len, mg_0, mg_1, mg_2, mg_3, mg_4, mg_5, mg_6, mg_7, mg_8, mg_9, mg_10, mg_11, mg_12, mg_13, mg_14, mg_15, mg_16, mg_17, mg_18, mg_19, mg_20, mg_21, mg_22, mg_23, mg_24, mg_25, mg_26, mg_27, mg_28, mg_29, mg_30, mg_31, mg_32, mg_33, mg_34, mg_35, ms_2, ms_8, ms_9, ms_10, ms_11, ms_12, ms_13, ms_14, ms_15, ms_16, ms_17, ms_18, ms_19, ms_22, ms_23, ms_32, ms_33, ms_34, ms_35, cN_0, vN_0, cN_1, vN_1, cN_2, vN_2, cN_3, vN_3, cN_4, vN_4, cN_5, vN_5, cN_6, vN_6, cN_7, vN_7, cN_8, vN_8, cN_9, vN_9, cN_190, vN_190, wpC, stpC, PC, PV, reduceCtorEq]
  try simp only [m1f]
  try simp (disch := omega) only [nmod, nI_leI, nI_ltI, nI_eq, nI_clamp, vin_nI, nI_1, fa_lit, nI_add, nI_rm3, nI_rm2, pk_rem, pk_mul, pk_sub, pk_div, nI_eM, nI_Me, nI_pM, nI_pMz, nI_pM0, M1_lt, M1_le, nI_ltM, nI_leM, i8_nI, true_and, and_true, false_implies, true_implies, not_false_eq_true, not_true_eq_false, ne_eq, implies_true, Nat.not_lt_zero, Nat.zero_le, ite_min, max0, Nat.reduceLT, Nat.reduceLeDiff, Nat.reduceEqDiff, Nat.reduceAdd, Nat.reduceMul, Nat.add_zero, Nat.zero_add]
  try simp only [m1u]
  exact loop 100 0 s _ (by omega) hs
end M6s
