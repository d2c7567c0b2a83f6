-- the reference: a tent chooses; a noon
set_option maxRecDepth 100000
set_option maxHeartbeats 4000000
section M8s
variable {G : Gam} {d n z : Nat} {f f0 : Mf} {I W : Nat → Int32} {A : Nat → Nat → Int32} {s : Sc} {S S' : Sta} {bs gn : Int32} {L : Lw}
theorem upd_sf {g : Nat → Int32} {i : Nat} : upd g i (g i) = g := by
  funext j; rw [upd_ap]
  by_cases q : j = i
  · rw [if_pos q, q]
  · rw [if_neg q]
theorem aj4_ir {h : Nat} : ¬ aj4 h h := by unfold aj4; omega
theorem sub_le3 {a b c : Nat} (ha : a < 1000000) (hb : b < 1000000) (hc : c < 1000000) : nI a - nI b ≤ nI c ↔ a ≤ c + b := by
  rw [Int32.le_iff_toInt_le, pk_sub_toInt (by omega) (by omega), nI_toInt (by omega)]; omega
theorem t9_draw (hG : Ok G) {m : Nat} (hm : 0 < m ∧ m < 1000) : Tr G d 134 [.ref 31, .int (nI m)] n z (mM f0 I W A s) (fun v n' z' f' => v = some (.int (drV (drI (W 2)) (nI m))) ∧ n' = n ∧ z' = z ∧ f' = mM f0 I (upd W 2 (drI (W 2))) A s) := by
  refine Tr.of2 (ls0 := [.ref 31, .int (nI m)]) hG mo_X9_draw (Nat.le_of_ble_eq_true rfl) rfl ?_
  intro X hi hd hXn hXz hXf hQ
  refine wpC_sound (PC_ok hG _) (by rw [hi]; exact ok_X9_draw) (hd := []) 400 _ _ _ _ _ _ ?_
  simp only [wp, stp, List.mem_cons, List.not_mem_nil, Nat.reduceEqDiff, or_false, or_self, false_or, or_true, true_or, Nat.reduceAdd, ↓reduceIte, List.getElem?_cons_zero, List.getElem?_cons_succ, nthV, List.set_cons_zero, List.set_cons_succ, noL, popA, catS, Value.category, List.length_cons, List.length_nil, Nat.reduceLT, Nat.reduceLeDiff, true_and, and_true, one0, zer1, imp_t, imp_f, ofN_nI, sdead, f20, f21, not_true_eq_false, upC_ap, upC_upC, retC, fitC, isRefT, Option.toList_some, Option.toList_none, List.cons_append, List.nil_append, Nat.lt_add_one, Nat.zero_lt_succ, Nat.le_refl, Nat.add_zero, Nat.zero_add, Nat.one_ne_zero, Nat.zero_ne_one, Nat.lt_irrefl, List.length_set, fa_X9_draw, hi, hd, hQ, mr_X9_draw, mM_31, mM_32, mM_33, mM_34, mM_35, mM_36, mM_37, mM_38, mM_39, mM_40, mM_41, mM_42, mM_43, mM_44, mM_45, mM_46, mM_47, mM_48, mu_31, mu_32, mu_33, mu_34, mu_35, mu_36, mu_37, mu_38, mu_39, mu_40, mu_41, mu_42, mu_43, mu_44, mu_45, mu_46, mu_47, mu_48, mO_len, mg_0, mg_1, mg_2, mg_3, mg_4, mg_5, mg_6, mg_7, mg_8, mg_9, mg_10, mg_11, mg_12, mg_13, mg_14, mg_15, mg_16, mg_17, mg_18, mg_19, mg_20, mg_21, mg_22, mg_23, mg_24, mg_25, mg_26, mg_27, mg_28, mg_29, mg_30, mg_31, mg_32, mg_33, mg_34, mg_35, ms_2, ms_8, ms_9, ms_10, ms_11, ms_12, ms_13, ms_14, ms_15, ms_16, ms_17, ms_18, ms_19, ms_22, ms_23, ms_32, ms_33, ms_34, ms_35, cN_0, vN_0, cN_1, vN_1, cN_2, vN_2, cN_3, vN_3, cN_4, vN_4, cN_5, vN_5, cN_6, vN_6, cN_7, vN_7, cN_8, vN_8, cN_9, vN_9, cN_190, vN_190, wpC, stpC, PC, PV, reduceCtorEq]
  refine ⟨fun q => absurd ((nI_eq (b := 0) (by omega) (by omega)).mp q) (by omega), ?_, ?_⟩
  · rw [upd_ap, if_pos rfl]; rfl
  · rfl
theorem WR.n2 (h : WR S bs gn W) (v : Int32) : WR (upS S 0 2 v) bs gn (upd W 2 v) := by
  obtain ⟨⟨r1, r2⟩, r3, r4, r5⟩ := h
  have et : tn (upS S 0 2 v) = tn S := by unfold tn; rw [upS_0 (by omega)]
  have em : mn (upS S 0 2 v) = mn S := by unfold mn; rw [upS_0 (by omega)]
  refine ⟨⟨fun i hi => ?_, fun c hc => ?_⟩, fun o ho => ?_, fun j o hj hj6 ho => ?_, fun m hm => ?_⟩
  · rw [upd_ap]
    by_cases q : i = 2
    · rw [if_pos q, q, upS_self]
    · rw [if_neg q, upS_0 q]; exact r1 i hi
  · rw [upd_ap, if_neg (by omega), r2 c hc]; unfold kB; rw [upS_row (by omega)]
  · rw [et] at ho; rw [upd_ap, if_neg (by omega), upS_row (by omega)]; exact r3 o ho
  · rw [et] at ho; rw [upd_ap, if_neg (by omega), upS_row (by omega)]; exact r4 j o hj hj6 ho
  · rw [em] at hm; rw [upd_ap, if_neg (by omega), upS_row (by omega)]; exact r5 m hm
theorem Hb.n2 (h : Hb S bs gn I W) (v : Int32) : Hb (upS S 0 2 v) bs gn I (upd W 2 v) := by
  obtain ⟨⟨hB, ⟨hV, hM⟩, hK⟩, hW, hI⟩ := h
  have hS : SmP S (upS S 0 2 v) := SmP.num S 2 v (Or.inl rfl)
  exact ⟨⟨hS.bd hB, ⟨hS.vb hV, fun m hm => by rw [hS.emn] at hm; rw [hS.2.2.2.2]; exact hM m hm⟩, by rw [hS.2.1]; exact hK⟩, hW.n2 v, hI⟩
/-- where the tent would be -/
noncomputable def chV (S : Sta) (L : Lw) (th : Int32) (t : Nat) : Int32 := match wishS S L th t with | some c => nI c | none => S 2 t
theorem chV_w1 {t : Nat} {th Y : Int32} (m3 : S 4 t = 3) (hth : th = 0) (hY : whY S = Y) (q : csS S Y (nI t) (S 3 t)) : chV S L th t = Y := by
  have e : wishS S L th t = whS S t := by unfold wishS; rw [if_pos m3, if_pos hth]
  rw [← hY] at q
  obtain ⟨k, hk, ek⟩ := inS_nI q.1.1.1
  unfold chV
  rw [e]
  by_cases q2 : whY S = S 2 t
  · have e2 : whS S t = none := if_neg (fun r => r.2 q2)
    rw [e2, ← hY]; exact q2.symm
  · have e2 : whS S t = some (whY S).toNatClampNeg := if_pos ⟨q, q2⟩
    rw [e2, ← hY, ek, nI_clamp (by omega)]
theorem chV_w2 {t : Nat} {th Y : Int32} (m3 : S 4 t = 3) (hth : th = 0) (hY : whY S = Y) (q : ¬ csS S Y (nI t) (S 3 t)) : chV S L th t = S 2 t := by
  have e : wishS S L th t = whS S t := by unfold wishS; rw [if_pos m3, if_pos hth]
  rw [← hY] at q
  unfold chV
  rw [e]
  have e2 : whS S t = none := if_neg (fun r => q r.1)
  rw [e2]
theorem t9_chosenW (hG : Ok G) (hd1 : 12 ≤ d) (hbs : bs = 1) (hS : VS S) (hH : Hb S bs (-1) I W) (hL : WL W L) (hs : WyM S bs s) {t : Nat} (ht : t < tn S) (m3 : S 4 t = 3) {th : Int32} (hth : th = 0) : Tr G d 187 [.ref 31, .int (nI t), .int th] n z (mM f0 I W A s) (fun v n' z' f' => v = some (.int (chV S L th t)) ∧ n' = n ∧ z' = z ∧ ∃ s', f' = mM f0 I (upd W 2 (drS S th t)) A s' ∧ WyM S bs s') := by
  obtain ⟨⟨hB, ⟨hV, hM⟩, hK⟩, h, hI⟩ := id hH
  obtain ⟨w0, w1, w2, w3, w4, w5, w6, -⟩ := h.ten
  have h10 := hB.1.2
  have hgt : ¬ nI t = -1 := fun q => (nI_em (by omega)).mp q
  obtain ⟨h0, hh, eh⟩ := hS.home ht
  have hh1 := hh.1.1
  have e := (h.2.1 t ht).1 hgt
  rw [eh] at e
  have e2 := h.2.2.1 2 t (by omega) (by omega) ht
  simp only [Nat.reduceAdd] at e2
  obtain ⟨⟨b1, b2⟩, ⟨-, b4⟩, wd, hg, c0, c1, hw1, hw2, hh1', hh2⟩ := id hB
  obtain ⟨fi, hfi, ef⟩ := hS.2.2.2.2.1
  have stay : ∀ s', drS S th t = S 0 2 → WyM S bs s' → ∃ s'', mM f0 I W A s' = mM f0 I (upd W 2 (drS S th t)) A s'' ∧ WyM S bs s'' := fun s' q hs' => ⟨s', by rw [q, ← w2, upd_sf], hs'⟩
  refine Tr.of2 (ls0 := [.ref 31, .int (nI t), .int th, dead, dead, dead]) hG mo_X9_chosen (Nat.le_of_ble_eq_true rfl) rfl ?_
  intro X hi hd hXn hXz hXf hQ
  rw [m3] at e2
  refine wpC_sound (PC_ok hG _) (by rw [hi]; exact ok_X9_chosen) (hd := [33, 45, 60, 102, 110, 125, 138]) 400 _ _ _ _ _ _ ?_
  simp only [wp, stp, List.mem_cons, List.not_mem_nil, Nat.reduceEqDiff, or_false, or_self, false_or, or_true, true_or, Nat.reduceAdd, ↓reduceIte, List.getElem?_cons_zero, List.getElem?_cons_succ, nthV, List.set_cons_zero, List.set_cons_succ, noL, popA, catS, Value.category, List.length_cons, List.length_nil, Nat.reduceLT, Nat.reduceLeDiff, true_and, and_true, one0, zer1, imp_t, imp_f, ofN_nI, sdead, f20, f21, not_true_eq_false, upC_ap, upC_upC, retC, fitC, isRefT, Option.toList_some, Option.toList_none, List.cons_append, List.nil_append, Nat.lt_add_one, Nat.zero_lt_succ, Nat.le_refl, Nat.add_zero, Nat.zero_add, Nat.one_ne_zero, Nat.zero_ne_one, Nat.lt_irrefl, List.length_set, fa_X9_chosen, hi, hd, hQ, mr_X9_chosen, e, e2, w0, c0, hth, mM_31, mM_32, mM_33, mM_34, mM_35, mM_36, mM_37, mM_38, mM_39, mM_40, mM_41, mM_42, mM_43, mM_44, mM_45, mM_46, mM_47, mM_48, mu_31, mu_32, mu_33, mu_34, mu_35, mu_36, mu_37, mu_38, mu_39, mu_40, mu_41, mu_42, mu_43, mu_44, mu_45, mu_46, mu_47, mu_48, mO_len, mg_0, mg_1, mg_2, mg_3, mg_4, mg_5, mg_6, mg_7, mg_8, mg_9, mg_10, mg_11, mg_12, mg_13, mg_14, mg_15, mg_16, mg_17, mg_18, mg_19, mg_20, mg_21, mg_22, mg_23, mg_24, mg_25, mg_26, mg_27, mg_28, mg_29, mg_30, mg_31, mg_32, mg_33, mg_34, mg_35, ms_2, ms_8, ms_9, ms_10, ms_11, ms_12, ms_13, ms_14, ms_15, ms_16, ms_17, ms_18, ms_19, ms_22, ms_23, ms_32, ms_33, ms_34, ms_35, cN_0, vN_0, cN_1, vN_1, cN_2, vN_2, cN_3, vN_3, cN_4, vN_4, cN_5, vN_5, cN_6, vN_6, cN_7, vN_7, cN_8, vN_8, cN_9, vN_9, cN_190, vN_190, wpC, stpC, PC, PV, reduceCtorEq]
  try simp only [m1f]
  try simp (disch := omega) only [nmod, nI_leI, nI_ltI, nI_eq, nI_clamp, vin_nI, nI_1, fa_lit, nI_add, nI_rm3, nI_rm2, pk_rem, pk_mul, pk_sub, pk_div, nI_eM, nI_Me, nI_pM, nI_pMz, nI_pM0, M1_lt, M1_le, nI_ltM, nI_leM, i8_nI, true_and, and_true, false_implies, true_implies, not_false_eq_true, not_true_eq_false, ne_eq, implies_true, Nat.not_lt_zero, Nat.zero_le, ite_min, max0, Nat.reduceLT, Nat.reduceLeDiff, Nat.reduceEqDiff, Nat.reduceAdd, Nat.reduceMul, Nat.add_zero, Nat.zero_add, e, e2, w0, c0, hth]
  try simp only [m1u]
  refine ⟨by omega, by omega, by omega, by omega, by omega, _, t9_draw hG (by omega), ?_⟩
  rintro v n1 z1 f1 ⟨rfl, rfl, rfl, rfl⟩
  rw [w2]
  have hH1 := hH.n2 (drI (S 0 2))
  obtain ⟨W1, hW1⟩ : ∃ W1, W1 = upd W 2 (drI (S 0 2)) := ⟨_, rfl⟩
  rw [← hW1] at hH1 ⊢
  have wx1 : W1 1 = nI hg := by rw [hH1.2.1.1.1 1 (by omega), upS_0 (by omega), c1]
  have wx2 : W1 2 = drI (S 0 2) := by rw [hH1.2.1.1.1 2 (by omega), upS_self]
  refine wpC_sound (PC_ok hG _) (by rw [hi]; exact ok_X9_chosen) (hd := [33, 45, 60, 102, 110, 125, 138]) 400 _ _ _ _ _ _ ?_
  simp only [wp, stp, List.mem_cons, List.not_mem_nil, Nat.reduceEqDiff, or_false, or_self, false_or, or_true, true_or, Nat.reduceAdd, ↓reduceIte, List.getElem?_cons_zero, List.getElem?_cons_succ, nthV, List.set_cons_zero, List.set_cons_succ, noL, popA, catS, Value.category, List.length_cons, List.length_nil, Nat.reduceLT, Nat.reduceLeDiff, true_and, and_true, one0, zer1, imp_t, imp_f, ofN_nI, sdead, f20, f21, not_true_eq_false, upC_ap, upC_upC, retC, fitC, isRefT, Option.toList_some, Option.toList_none, List.cons_append, List.nil_append, Nat.lt_add_one, Nat.zero_lt_succ, Nat.le_refl, Nat.add_zero, Nat.zero_add, Nat.one_ne_zero, Nat.zero_ne_one, Nat.lt_irrefl, List.length_set, fa_X9_chosen, hi, hd, hQ, mr_X9_chosen, wx1, mM_31, mM_32, mM_33, mM_34, mM_35, mM_36, mM_37, mM_38, mM_39, mM_40, mM_41, mM_42, mM_43, mM_44, mM_45, mM_46, mM_47, mM_48, mu_31, mu_32, mu_33, mu_34, mu_35, mu_36, mu_37, mu_38, mu_39, mu_40, mu_41, mu_42, mu_43, mu_44, mu_45, mu_46, mu_47, mu_48, mO_len, mg_0, mg_1, mg_2, mg_3, mg_4, mg_5, mg_6, mg_7, mg_8, mg_9, mg_10, mg_11, mg_12, mg_13, mg_14, mg_15, mg_16, mg_17, mg_18, mg_19, mg_20, mg_21, mg_22, mg_23, mg_24, mg_25, mg_26, mg_27, mg_28, mg_29, mg_30, mg_31, mg_32, mg_33, mg_34, mg_35, ms_2, ms_8, ms_9, ms_10, ms_11, ms_12, ms_13, ms_14, ms_15, ms_16, ms_17, ms_18, ms_19, ms_22, ms_23, ms_32, ms_33, ms_34, ms_35, cN_0, vN_0, cN_1, vN_1, cN_2, vN_2, cN_3, vN_3, cN_4, vN_4, cN_5, vN_5, cN_6, vN_6, cN_7, vN_7, cN_8, vN_8, cN_9, vN_9, cN_190, vN_190, wpC, stpC, PC, PV, reduceCtorEq]
  refine ⟨by omega, _, t9_draw hG (by omega), ?_⟩
  rintro v n1 z1 f1 ⟨rfl, rfl, rfl, rfl⟩
  rw [wx2]
  have hH2 := hH1.n2 (drI (drI (S 0 2)))
  obtain ⟨W2, hW2⟩ : ∃ W2, W2 = upd W1 2 (drI (drI (S 0 2))) := ⟨_, rfl⟩
  rw [← hW2] at hH2 ⊢
  have eS : SmP S (upS (upS S 0 2 (drI (S 0 2))) 0 2 (drI (drI (S 0 2)))) := (SmP.num S 2 _ (Or.inl rfl)).trans (SmP.num _ 2 _ (Or.inl rfl))
  obtain ⟨S2, hS2⟩ : ∃ S2, S2 = upS (upS S 0 2 (drI (S 0 2))) 0 2 (drI (drI (S 0 2))) := ⟨_, rfl⟩
  rw [← hS2] at eS hH2
  clear hS2
  obtain ⟨x1, hx1⟩ : ∃ x1, x1 = drV (drI (S 0 2)) (nI wd) := ⟨_, rfl⟩
  obtain ⟨y1, hy1⟩ : ∃ y1, y1 = drV (drI (drI (S 0 2))) (nI hg) := ⟨_, rfl⟩
  obtain ⟨Y, hY⟩ : ∃ Y, Y = 10 * y1 + x1 := ⟨_, rfl⟩
  have hY0 : whY S = Y := by rw [hY, hy1, hx1, ← c0, ← c1]; rfl
  rw [← hx1, ← hy1]
  have eW : mM f0 I W2 A s = mM f0 I (upd W 2 (drS S th t)) A s := by
    rw [hW2, hW1, show drS S th t = drI (drI (S 0 2)) from if_pos ⟨m3, hth⟩]
    congr 1
    funext j; rw [upd_ap, upd_ap, upd_ap]; split <;> rfl
  refine wpC_sound (PC_ok hG _) (by rw [hi]; exact ok_X9_chosen) (hd := [33, 45, 60, 102, 110, 125, 138]) 400 _ _ _ _ _ _ ?_
  simp only [wp, stp, List.mem_cons, List.not_mem_nil, Nat.reduceEqDiff, or_false, or_self, false_or, or_true, true_or, Nat.reduceAdd, ↓reduceIte, List.getElem?_cons_zero, List.getElem?_cons_succ, nthV, List.set_cons_zero, List.set_cons_succ, noL, popA, catS, Value.category, List.length_cons, List.length_nil, Nat.reduceLT, Nat.reduceLeDiff, true_and, and_true, one0, zer1, imp_t, imp_f, ofN_nI, sdead, f20, f21, not_true_eq_false, upC_ap, upC_upC, retC, fitC, isRefT, Option.toList_some, Option.toList_none, List.cons_append, List.nil_append, Nat.lt_add_one, Nat.zero_lt_succ, Nat.le_refl, Nat.add_zero, Nat.zero_add, Nat.one_ne_zero, Nat.zero_ne_one, Nat.lt_irrefl, List.length_set, fa_X9_chosen, hi, hd, hQ, mr_X9_chosen, ← hY, mM_31, mM_32, mM_33, mM_34, mM_35, mM_36, mM_37, mM_38, mM_39, mM_40, mM_41, mM_42, mM_43, mM_44, mM_45, mM_46, mM_47, mM_48, mu_31, mu_32, mu_33, mu_34, mu_35, mu_36, mu_37, mu_38, mu_39, mu_40, mu_41, mu_42, mu_43, mu_44, mu_45, mu_46, mu_47, mu_48, mO_len, mg_0, mg_1, mg_2, mg_3, mg_4, mg_5, mg_6, mg_7, mg_8, mg_9, mg_10, mg_11, mg_12, mg_13, mg_14, mg_15, mg_16, mg_17, mg_18, mg_19, mg_20, mg_21, mg_22, mg_23, mg_24, mg_25, mg_26, mg_27, mg_28, mg_29, mg_30, mg_31, mg_32, mg_33, mg_34, mg_35, ms_2, ms_8, ms_9, ms_10, ms_11, ms_12, ms_13, ms_14, ms_15, ms_16, ms_17, ms_18, ms_19, ms_22, ms_23, ms_32, ms_33, ms_34, ms_35, cN_0, vN_0, cN_1, vN_1, cN_2, vN_2, cN_3, vN_3, cN_4, vN_4, cN_5, vN_5, cN_6, vN_6, cN_7, vN_7, cN_8, vN_8, cN_9, vN_9, cN_190, vN_190, wpC, stpC, PC, PV, reduceCtorEq]
  refine ⟨by omega, _, t9_couldStand hG (by omega) hH2.1.1 hH2.2.1 (by rw [eS.etn]; exact ht) _, ?_⟩
  rintro v n1 z1 f1 ⟨rfl, rfl, rfl, rfl⟩
  have csE : csS S2 Y (nI t) (S2 3 t) ↔ csS S Y (nI t) (S 3 t) := by
    rw [eS.cs, eS.2.2.2.1]
  by_cases q : csS S Y (nI t) (S 3 t)
  · rw [bI_t (csE.mpr q)]
    have ech : chV S L th t = Y := chV_w1 m3 hth hY0 q
    refine wpC_sound (PC_ok hG _) (by rw [hi]; exact ok_X9_chosen) (hd := [33, 45, 60, 102, 110, 125, 138]) 400 _ _ _ _ _ _ ?_
    simp only [wp, stp, List.mem_cons, List.not_mem_nil, Nat.reduceEqDiff, or_false, or_self, false_or, or_true, true_or, Nat.reduceAdd, ↓reduceIte, List.getElem?_cons_zero, List.getElem?_cons_succ, nthV, List.set_cons_zero, List.set_cons_succ, noL, popA, catS, Value.category, List.length_cons, List.length_nil, Nat.reduceLT, Nat.reduceLeDiff, true_and, and_true, one0, zer1, imp_t, imp_f, ofN_nI, sdead, f20, f21, not_true_eq_false, upC_ap, upC_upC, retC, fitC, isRefT, Option.toList_some, Option.toList_none, List.cons_append, List.nil_append, Nat.lt_add_one, Nat.zero_lt_succ, Nat.le_refl, Nat.add_zero, Nat.zero_add, Nat.one_ne_zero, Nat.zero_ne_one, Nat.lt_irrefl, List.length_set, fa_X9_chosen, hi, hd, hQ, mr_X9_chosen, ← hY, mM_31, mM_32, mM_33, mM_34, mM_35, mM_36, mM_37, mM_38, mM_39, mM_40, mM_41, mM_42, mM_43, mM_44, mM_45, mM_46, mM_47, mM_48, mu_31, mu_32, mu_33, mu_34, mu_35, mu_36, mu_37, mu_38, mu_39, mu_40, mu_41, mu_42, mu_43, mu_44, mu_45, mu_46, mu_47, mu_48, mO_len, mg_0, mg_1, mg_2, mg_3, mg_4, mg_5, mg_6, mg_7, mg_8, mg_9, mg_10, mg_11, mg_12, mg_13, mg_14, mg_15, mg_16, mg_17, mg_18, mg_19, mg_20, mg_21, mg_22, mg_23, mg_24, mg_25, mg_26, mg_27, mg_28, mg_29, mg_30, mg_31, mg_32, mg_33, mg_34, mg_35, ms_2, ms_8, ms_9, ms_10, ms_11, ms_12, ms_13, ms_14, ms_15, ms_16, ms_17, ms_18, ms_19, ms_22, ms_23, ms_32, ms_33, ms_34, ms_35, cN_0, vN_0, cN_1, vN_1, cN_2, vN_2, cN_3, vN_3, cN_4, vN_4, cN_5, vN_5, cN_6, vN_6, cN_7, vN_7, cN_8, vN_8, cN_9, vN_9, cN_190, vN_190, wpC, stpC, PC, PV, reduceCtorEq]
    exact ⟨by rw [ech], s, eW, hs⟩
  · rw [bI_f (fun r => q (csE.mp r))]
    have ech : chV S L th t = nI h0 := (chV_w2 m3 hth hY0 q).trans eh
    refine wpC_sound (PC_ok hG _) (by rw [hi]; exact ok_X9_chosen) (hd := [33, 45, 60, 102, 110, 125, 138]) 400 _ _ _ _ _ _ ?_
    simp only [wp, stp, List.mem_cons, List.not_mem_nil, Nat.reduceEqDiff, or_false, or_self, false_or, or_true, true_or, Nat.reduceAdd, ↓reduceIte, List.getElem?_cons_zero, List.getElem?_cons_succ, nthV, List.set_cons_zero, List.set_cons_succ, noL, popA, catS, Value.category, List.length_cons, List.length_nil, Nat.reduceLT, Nat.reduceLeDiff, true_and, and_true, one0, zer1, imp_t, imp_f, ofN_nI, sdead, f20, f21, not_true_eq_false, upC_ap, upC_upC, retC, fitC, isRefT, Option.toList_some, Option.toList_none, List.cons_append, List.nil_append, Nat.lt_add_one, Nat.zero_lt_succ, Nat.le_refl, Nat.add_zero, Nat.zero_add, Nat.one_ne_zero, Nat.zero_ne_one, Nat.lt_irrefl, List.length_set, fa_X9_chosen, hi, hd, hQ, mr_X9_chosen, mM_31, mM_32, mM_33, mM_34, mM_35, mM_36, mM_37, mM_38, mM_39, mM_40, mM_41, mM_42, mM_43, mM_44, mM_45, mM_46, mM_47, mM_48, mu_31, mu_32, mu_33, mu_34, mu_35, mu_36, mu_37, mu_38, mu_39, mu_40, mu_41, mu_42, mu_43, mu_44, mu_45, mu_46, mu_47, mu_48, mO_len, mg_0, mg_1, mg_2, mg_3, mg_4, mg_5, mg_6, mg_7, mg_8, mg_9, mg_10, mg_11, mg_12, mg_13, mg_14, mg_15, mg_16, mg_17, mg_18, mg_19, mg_20, mg_21, mg_22, mg_23, mg_24, mg_25, mg_26, mg_27, mg_28, mg_29, mg_30, mg_31, mg_32, mg_33, mg_34, mg_35, ms_2, ms_8, ms_9, ms_10, ms_11, ms_12, ms_13, ms_14, ms_15, ms_16, ms_17, ms_18, ms_19, ms_22, ms_23, ms_32, ms_33, ms_34, ms_35, cN_0, vN_0, cN_1, vN_1, cN_2, vN_2, cN_3, vN_3, cN_4, vN_4, cN_5, vN_5, cN_6, vN_6, cN_7, vN_7, cN_8, vN_8, cN_9, vN_9, cN_190, vN_190, wpC, stpC, PC, PV, reduceCtorEq]
    exact fun _ => ⟨by rw [ech], s, eW, hs⟩
theorem t9_chosen (hG : Ok G) (hd1 : 12 ≤ d) (hbs : bs = 1) (hS : VS S) (hH : Hb S bs (-1) I W) (hL : WL W L) (hs : WyM S bs s) {t : Nat} (ht : t < tn S) {th : Int32} (hth : th = 0 ∨ th = 1) : Tr G d 187 [.ref 31, .int (nI t), .int th] n z (mM f0 I W A s) (fun v n' z' f' => v = some (.int (chV S L th t)) ∧ n' = n ∧ z' = z ∧ ∃ s', f' = mM f0 I (upd W 2 (drS S th t)) A s' ∧ WyM S bs s') := by
  obtain ⟨⟨hB, ⟨hV, hM⟩, hK⟩, h, hI⟩ := id hH
  obtain ⟨w0, w1, w2, w3, w4, w5, w6, -⟩ := h.ten
  have h10 := hB.1.2
  have hgt : ¬ nI t = -1 := fun q => (nI_em (by omega)).mp q
  obtain ⟨h0, hh, eh⟩ := hS.home ht
  have hh1 := hh.1.1
  have e := (h.2.1 t ht).1 hgt
  rw [eh] at e
  have e2 := h.2.2.1 2 t (by omega) (by omega) ht
  simp only [Nat.reduceAdd] at e2
  obtain ⟨⟨b1, b2⟩, ⟨-, b4⟩, wd, hg, c0, c1, hw1, hw2, hh1', hh2⟩ := id hB
  obtain ⟨fi, hfi, ef⟩ := hS.2.2.2.2.1
  have stay : ∀ s', drS S th t = S 0 2 → WyM S bs s' → ∃ s'', mM f0 I W A s' = mM f0 I (upd W 2 (drS S th t)) A s'' ∧ WyM S bs s'' := fun s' q hs' => ⟨s', by rw [q, ← w2, upd_sf], hs'⟩
  by_cases mm : S 4 t = 3 ∧ th = 0
  · exact t9_chosenW hG hd1 hbs hS hH hL hs ht mm.1 mm.2
  refine Tr.of2 (ls0 := [.ref 31, .int (nI t), .int th, dead, dead, dead]) hG mo_X9_chosen (Nat.le_of_ble_eq_true rfl) rfl ?_
  intro X hi hd hXn hXz hXf hQ
  by_cases m3 : S 4 t = 3
  · rcases hth with rfl | rfl
    · exact absurd ⟨m3, rfl⟩ mm
    · have ech : chV S L 1 t = nI h0 := by
        unfold chV wishS
        rw [if_pos m3, if_neg (by decide)]; exact eh
      rw [m3] at e2
      have sty := stay s (by unfold drS; rw [if_neg (fun q => absurd q.2 (by decide))]) hs
      rw [ech] at hQ
      refine wpC_sound (PC_ok hG _) (by rw [hi]; exact ok_X9_chosen) (hd := [33, 45, 60, 102, 110, 125, 138]) 400 _ _ _ _ _ _ ?_
      simp only [wp, stp, List.mem_cons, List.not_mem_nil, Nat.reduceEqDiff, or_false, or_self, false_or, or_true, true_or, Nat.reduceAdd, ↓reduceIte, List.getElem?_cons_zero, List.getElem?_cons_succ, nthV, List.set_cons_zero, List.set_cons_succ, noL, popA, catS, Value.category, List.length_cons, List.length_nil, Nat.reduceLT, Nat.reduceLeDiff, true_and, and_true, one0, zer1, imp_t, imp_f, ofN_nI, sdead, f20, f21, not_true_eq_false, upC_ap, upC_upC, retC, fitC, isRefT, Option.toList_some, Option.toList_none, List.cons_append, List.nil_append, Nat.lt_add_one, Nat.zero_lt_succ, Nat.le_refl, Nat.add_zero, Nat.zero_add, Nat.one_ne_zero, Nat.zero_ne_one, Nat.lt_irrefl, List.length_set, fa_X9_chosen, hi, hd, hQ, mr_X9_chosen, e, e2, mM_31, mM_32, mM_33, mM_34, mM_35, mM_36, mM_37, mM_38, mM_39, mM_40, mM_41, mM_42, mM_43, mM_44, mM_45, mM_46, mM_47, mM_48, mu_31, mu_32, mu_33, mu_34, mu_35, mu_36, mu_37, mu_38, mu_39, mu_40, mu_41, mu_42, mu_43, mu_44, mu_45, mu_46, mu_47, mu_48, mO_len, mg_0, mg_1, mg_2, mg_3, mg_4, mg_5, mg_6, mg_7, mg_8, mg_9, mg_10, mg_11, mg_12, mg_13, mg_14, mg_15, mg_16, mg_17, mg_18, mg_19, mg_20, mg_21, mg_22, mg_23, mg_24, mg_25, mg_26, mg_27, mg_28, mg_29, mg_30, mg_31, mg_32, mg_33, mg_34, mg_35, ms_2, ms_8, ms_9, ms_10, ms_11, ms_12, ms_13, ms_14, ms_15, ms_16, ms_17, ms_18, ms_19, ms_22, ms_23, ms_32, ms_33, ms_34, ms_35, cN_0, vN_0, cN_1, vN_1, cN_2, vN_2, cN_3, vN_3, cN_4, vN_4, cN_5, vN_5, cN_6, vN_6, cN_7, vN_7, cN_8, vN_8, cN_9, vN_9, cN_190, vN_190, wpC, stpC, PC, PV, reduceCtorEq]
      try simp only [m1f]
      try simp (disch := omega) only [nmod, nI_leI, nI_ltI, nI_eq, nI_clamp, vin_nI, nI_1, fa_lit, nI_add, nI_rm3, nI_rm2, pk_rem, pk_mul, pk_sub, pk_div, nI_eM, nI_Me, nI_pM, nI_pMz, nI_pM0, M1_lt, M1_le, nI_ltM, nI_leM, i8_nI, true_and, and_true, false_implies, true_implies, not_false_eq_true, not_true_eq_false, ne_eq, implies_true, Nat.not_lt_zero, Nat.zero_le, ite_min, max0, Nat.reduceLT, Nat.reduceLeDiff, Nat.reduceEqDiff, Nat.reduceAdd, Nat.reduceMul, Nat.add_zero, Nat.zero_add, e, e2]
      try simp only [m1u]
      exact ⟨by omega, by omega, by omega, by omega, sty⟩
  · have sty := fun s' => stay s' (by unfold drS; rw [if_neg (fun q => m3 q.1)])
    by_cases m0 : S 4 t = 0
    · have ech : chV S L th t = nI h0 := by
        unfold chV wishS
        rw [if_neg m3, if_pos m0]; exact eh
      rw [m0] at e2
      rw [ech] at hQ
      refine wpC_sound (PC_ok hG _) (by rw [hi]; exact ok_X9_chosen) (hd := [33, 45, 60, 102, 110, 125, 138]) 400 _ _ _ _ _ _ ?_
      simp only [wp, stp, List.mem_cons, List.not_mem_nil, Nat.reduceEqDiff, or_false, or_self, false_or, or_true, true_or, Nat.reduceAdd, ↓reduceIte, List.getElem?_cons_zero, List.getElem?_cons_succ, nthV, List.set_cons_zero, List.set_cons_succ, noL, popA, catS, Value.category, List.length_cons, List.length_nil, Nat.reduceLT, Nat.reduceLeDiff, true_and, and_true, one0, zer1, imp_t, imp_f, ofN_nI, sdead, f20, f21, not_true_eq_false, upC_ap, upC_upC, retC, fitC, isRefT, Option.toList_some, Option.toList_none, List.cons_append, List.nil_append, Nat.lt_add_one, Nat.zero_lt_succ, Nat.le_refl, Nat.add_zero, Nat.zero_add, Nat.one_ne_zero, Nat.zero_ne_one, Nat.lt_irrefl, List.length_set, fa_X9_chosen, hi, hd, hQ, mr_X9_chosen, e, e2, mM_31, mM_32, mM_33, mM_34, mM_35, mM_36, mM_37, mM_38, mM_39, mM_40, mM_41, mM_42, mM_43, mM_44, mM_45, mM_46, mM_47, mM_48, mu_31, mu_32, mu_33, mu_34, mu_35, mu_36, mu_37, mu_38, mu_39, mu_40, mu_41, mu_42, mu_43, mu_44, mu_45, mu_46, mu_47, mu_48, mO_len, mg_0, mg_1, mg_2, mg_3, mg_4, mg_5, mg_6, mg_7, mg_8, mg_9, mg_10, mg_11, mg_12, mg_13, mg_14, mg_15, mg_16, mg_17, mg_18, mg_19, mg_20, mg_21, mg_22, mg_23, mg_24, mg_25, mg_26, mg_27, mg_28, mg_29, mg_30, mg_31, mg_32, mg_33, mg_34, mg_35, ms_2, ms_8, ms_9, ms_10, ms_11, ms_12, ms_13, ms_14, ms_15, ms_16, ms_17, ms_18, ms_19, ms_22, ms_23, ms_32, ms_33, ms_34, ms_35, cN_0, vN_0, cN_1, vN_1, cN_2, vN_2, cN_3, vN_3, cN_4, vN_4, cN_5, vN_5, cN_6, vN_6, cN_7, vN_7, cN_8, vN_8, cN_9, vN_9, cN_190, vN_190, wpC, stpC, PC, PV, reduceCtorEq]
      try simp only [m1f]
      try simp (disch := omega) only [nmod, nI_leI, nI_ltI, nI_eq, nI_clamp, vin_nI, nI_1, fa_lit, nI_add, nI_rm3, nI_rm2, pk_rem, pk_mul, pk_sub, pk_div, nI_eM, nI_Me, nI_pM, nI_pMz, nI_pM0, M1_lt, M1_le, nI_ltM, nI_leM, i8_nI, true_and, and_true, false_implies, true_implies, not_false_eq_true, not_true_eq_false, ne_eq, implies_true, Nat.not_lt_zero, Nat.zero_le, ite_min, max0, Nat.reduceLT, Nat.reduceLeDiff, Nat.reduceEqDiff, Nat.reduceAdd, Nat.reduceMul, Nat.add_zero, Nat.zero_add, e, e2]
      try simp only [m1u]
      exact ⟨by omega, by omega, by omega, by omega, by omega, by omega, sty s hs⟩
    · have L110 : ∀ (r : Option (Nat × Nat)) s u4 u5, WyM S bs s → (∀ q, r = some q → gsN S q.1 ∧ q.2 = pyC S L bs t q.1) → chV S L th t = (match r with | some q => if pyN S L bs t + fi < q.2 then nI q.1 else nI h0 | none => nI h0) → V G X 110 [.ref 31, .int (nI t), .int th, .int (nI h0), u4, u5] [.int (eO (r.map Prod.fst))] n z (mM f0 I W A s) := by
        intro r s u4 u5 hs hr hch
        cases r with
        | none =>
          have hch : chV S L th t = nI h0 := hch
          rw [hch] at hQ
          refine wpC_sound (PC_ok hG _) (by rw [hi]; exact ok_X9_chosen) (hd := [33, 45, 60, 102, 110, 125, 138]) 400 _ _ _ _ _ _ ?_
          simp only [wp, stp, List.mem_cons, List.not_mem_nil, Nat.reduceEqDiff, or_false, or_self, false_or, or_true, true_or, Nat.reduceAdd, ↓reduceIte, List.getElem?_cons_zero, List.getElem?_cons_succ, nthV, List.set_cons_zero, List.set_cons_succ, noL, popA, catS, Value.category, List.length_cons, List.length_nil, Nat.reduceLT, Nat.reduceLeDiff, true_and, and_true, one0, zer1, imp_t, imp_f, ofN_nI, sdead, f20, f21, not_true_eq_false, upC_ap, upC_upC, retC, fitC, isRefT, Option.toList_some, Option.toList_none, List.cons_append, List.nil_append, Nat.lt_add_one, Nat.zero_lt_succ, Nat.le_refl, Nat.add_zero, Nat.zero_add, Nat.one_ne_zero, Nat.zero_ne_one, Nat.lt_irrefl, List.length_set, fa_X9_chosen, hi, hd, hQ, mr_X9_chosen, Option.map_none, eO_n, mM_31, mM_32, mM_33, mM_34, mM_35, mM_36, mM_37, mM_38, mM_39, mM_40, mM_41, mM_42, mM_43, mM_44, mM_45, mM_46, mM_47, mM_48, mu_31, mu_32, mu_33, mu_34, mu_35, mu_36, mu_37, mu_38, mu_39, mu_40, mu_41, mu_42, mu_43, mu_44, mu_45, mu_46, mu_47, mu_48, mO_len, mg_0, mg_1, mg_2, mg_3, mg_4, mg_5, mg_6, mg_7, mg_8, mg_9, mg_10, mg_11, mg_12, mg_13, mg_14, mg_15, mg_16, mg_17, mg_18, mg_19, mg_20, mg_21, mg_22, mg_23, mg_24, mg_25, mg_26, mg_27, mg_28, mg_29, mg_30, mg_31, mg_32, mg_33, mg_34, mg_35, ms_2, ms_8, ms_9, ms_10, ms_11, ms_12, ms_13, ms_14, ms_15, ms_16, ms_17, ms_18, ms_19, ms_22, ms_23, ms_32, ms_33, ms_34, ms_35, cN_0, vN_0, cN_1, vN_1, cN_2, vN_2, cN_3, vN_3, cN_4, vN_4, cN_5, vN_5, cN_6, vN_6, cN_7, vN_7, cN_8, vN_8, cN_9, vN_9, cN_190, vN_190, wpC, stpC, PC, PV, reduceCtorEq]
          exact fun _ => sty s hs
        | some q =>
          obtain ⟨g1, g2⟩ := hr q rfl
          have g3 := g1.1.1
          have p9 : pyC S L bs t q.1 ≤ 9999 := payF_le _ _ _ _ _ _
          have p8 := pyN_le S L bs t
          refine wpC_sound (PC_ok hG _) (by rw [hi]; exact ok_X9_chosen) (hd := [33, 45, 60, 102, 110, 125, 138]) 400 _ _ _ _ _ _ ?_
          simp only [wp, stp, List.mem_cons, List.not_mem_nil, Nat.reduceEqDiff, or_false, or_self, false_or, or_true, true_or, Nat.reduceAdd, ↓reduceIte, List.getElem?_cons_zero, List.getElem?_cons_succ, nthV, List.set_cons_zero, List.set_cons_succ, noL, popA, catS, Value.category, List.length_cons, List.length_nil, Nat.reduceLT, Nat.reduceLeDiff, true_and, and_true, one0, zer1, imp_t, imp_f, ofN_nI, sdead, f20, f21, not_true_eq_false, upC_ap, upC_upC, retC, fitC, isRefT, Option.toList_some, Option.toList_none, List.cons_append, List.nil_append, Nat.lt_add_one, Nat.zero_lt_succ, Nat.le_refl, Nat.add_zero, Nat.zero_add, Nat.one_ne_zero, Nat.zero_ne_one, Nat.lt_irrefl, List.length_set, fa_X9_chosen, hi, hd, hQ, mr_X9_chosen, Option.map_some, eO_s, mM_31, mM_32, mM_33, mM_34, mM_35, mM_36, mM_37, mM_38, mM_39, mM_40, mM_41, mM_42, mM_43, mM_44, mM_45, mM_46, mM_47, mM_48, mu_31, mu_32, mu_33, mu_34, mu_35, mu_36, mu_37, mu_38, mu_39, mu_40, mu_41, mu_42, mu_43, mu_44, mu_45, mu_46, mu_47, mu_48, mO_len, mg_0, mg_1, mg_2, mg_3, mg_4, mg_5, mg_6, mg_7, mg_8, mg_9, mg_10, mg_11, mg_12, mg_13, mg_14, mg_15, mg_16, mg_17, mg_18, mg_19, mg_20, mg_21, mg_22, mg_23, mg_24, mg_25, mg_26, mg_27, mg_28, mg_29, mg_30, mg_31, mg_32, mg_33, mg_34, mg_35, ms_2, ms_8, ms_9, ms_10, ms_11, ms_12, ms_13, ms_14, ms_15, ms_16, ms_17, ms_18, ms_19, ms_22, ms_23, ms_32, ms_33, ms_34, ms_35, cN_0, vN_0, cN_1, vN_1, cN_2, vN_2, cN_3, vN_3, cN_4, vN_4, cN_5, vN_5, cN_6, vN_6, cN_7, vN_7, cN_8, vN_8, cN_9, vN_9, cN_190, vN_190, wpC, stpC, PC, PV, reduceCtorEq]
          try simp only [m1f]
          try simp (disch := omega) only [nmod, nI_leI, nI_ltI, nI_eq, nI_clamp, vin_nI, nI_1, fa_lit, nI_add, nI_rm3, nI_rm2, pk_rem, pk_mul, pk_sub, pk_div, nI_eM, nI_Me, nI_pM, nI_pMz, nI_pM0, M1_lt, M1_le, nI_ltM, nI_leM, i8_nI, true_and, and_true, false_implies, true_implies, not_false_eq_true, not_true_eq_false, ne_eq, implies_true, Nat.not_lt_zero, Nat.zero_le, ite_min, max0, Nat.reduceLT, Nat.reduceLeDiff, Nat.reduceEqDiff, Nat.reduceAdd, Nat.reduceMul, Nat.add_zero, Nat.zero_add, Option.map_some, eO_s]
          try simp only [m1u]
          refine ⟨by omega, _, t9_payAt hG (by omega) hH hL hs ht hgt g1, ?_⟩
          rintro v n1 z1 f1 ⟨rfl, rfl, rfl, s1, rfl, hs1⟩
          refine wpC_sound (PC_ok hG _) (by rw [hi]; exact ok_X9_chosen) (hd := [33, 45, 60, 102, 110, 125, 138]) 400 _ _ _ _ _ _ ?_
          simp only [wp, stp, List.mem_cons, List.not_mem_nil, Nat.reduceEqDiff, or_false, or_self, false_or, or_true, true_or, Nat.reduceAdd, ↓reduceIte, List.getElem?_cons_zero, List.getElem?_cons_succ, nthV, List.set_cons_zero, List.set_cons_succ, noL, popA, catS, Value.category, List.length_cons, List.length_nil, Nat.reduceLT, Nat.reduceLeDiff, true_and, and_true, one0, zer1, imp_t, imp_f, ofN_nI, sdead, f20, f21, not_true_eq_false, upC_ap, upC_upC, retC, fitC, isRefT, Option.toList_some, Option.toList_none, List.cons_append, List.nil_append, Nat.lt_add_one, Nat.zero_lt_succ, Nat.le_refl, Nat.add_zero, Nat.zero_add, Nat.one_ne_zero, Nat.zero_ne_one, Nat.lt_irrefl, List.length_set, fa_X9_chosen, hi, hd, hQ, mr_X9_chosen, w6, ef, mM_31, mM_32, mM_33, mM_34, mM_35, mM_36, mM_37, mM_38, mM_39, mM_40, mM_41, mM_42, mM_43, mM_44, mM_45, mM_46, mM_47, mM_48, mu_31, mu_32, mu_33, mu_34, mu_35, mu_36, mu_37, mu_38, mu_39, mu_40, mu_41, mu_42, mu_43, mu_44, mu_45, mu_46, mu_47, mu_48, mO_len, mg_0, mg_1, mg_2, mg_3, mg_4, mg_5, mg_6, mg_7, mg_8, mg_9, mg_10, mg_11, mg_12, mg_13, mg_14, mg_15, mg_16, mg_17, mg_18, mg_19, mg_20, mg_21, mg_22, mg_23, mg_24, mg_25, mg_26, mg_27, mg_28, mg_29, mg_30, mg_31, mg_32, mg_33, mg_34, mg_35, ms_2, ms_8, ms_9, ms_10, ms_11, ms_12, ms_13, ms_14, ms_15, ms_16, ms_17, ms_18, ms_19, ms_22, ms_23, ms_32, ms_33, ms_34, ms_35, cN_0, vN_0, cN_1, vN_1, cN_2, vN_2, cN_3, vN_3, cN_4, vN_4, cN_5, vN_5, cN_6, vN_6, cN_7, vN_7, cN_8, vN_8, cN_9, vN_9, cN_190, vN_190, wpC, stpC, PC, PV, reduceCtorEq]
          refine ⟨by omega, _, t9_payOf hG (by omega) hH hL hs1 ht hgt, ?_⟩
          rintro v n1 z1 f1 ⟨rfl, rfl, rfl, s2, rfl, hs2⟩
          refine wpC_sound (PC_ok hG _) (by rw [hi]; exact ok_X9_chosen) (hd := [33, 45, 60, 102, 110, 125, 138]) 400 _ _ _ _ _ _ ?_
          simp only [wp, stp, List.mem_cons, List.not_mem_nil, Nat.reduceEqDiff, or_false, or_self, false_or, or_true, true_or, Nat.reduceAdd, ↓reduceIte, List.getElem?_cons_zero, List.getElem?_cons_succ, nthV, List.set_cons_zero, List.set_cons_succ, noL, popA, catS, Value.category, List.length_cons, List.length_nil, Nat.reduceLT, Nat.reduceLeDiff, true_and, and_true, one0, zer1, imp_t, imp_f, ofN_nI, sdead, f20, f21, not_true_eq_false, upC_ap, upC_upC, retC, fitC, isRefT, Option.toList_some, Option.toList_none, List.cons_append, List.nil_append, Nat.lt_add_one, Nat.zero_lt_succ, Nat.le_refl, Nat.add_zero, Nat.zero_add, Nat.one_ne_zero, Nat.zero_ne_one, Nat.lt_irrefl, List.length_set, fa_X9_chosen, hi, hd, hQ, mr_X9_chosen, mM_31, mM_32, mM_33, mM_34, mM_35, mM_36, mM_37, mM_38, mM_39, mM_40, mM_41, mM_42, mM_43, mM_44, mM_45, mM_46, mM_47, mM_48, mu_31, mu_32, mu_33, mu_34, mu_35, mu_36, mu_37, mu_38, mu_39, mu_40, mu_41, mu_42, mu_43, mu_44, mu_45, mu_46, mu_47, mu_48, mO_len, mg_0, mg_1, mg_2, mg_3, mg_4, mg_5, mg_6, mg_7, mg_8, mg_9, mg_10, mg_11, mg_12, mg_13, mg_14, mg_15, mg_16, mg_17, mg_18, mg_19, mg_20, mg_21, mg_22, mg_23, mg_24, mg_25, mg_26, mg_27, mg_28, mg_29, mg_30, mg_31, mg_32, mg_33, mg_34, mg_35, ms_2, ms_8, ms_9, ms_10, ms_11, ms_12, ms_13, ms_14, ms_15, ms_16, ms_17, ms_18, ms_19, ms_22, ms_23, ms_32, ms_33, ms_34, ms_35, cN_0, vN_0, cN_1, vN_1, cN_2, vN_2, cN_3, vN_3, cN_4, vN_4, cN_5, vN_5, cN_6, vN_6, cN_7, vN_7, cN_8, vN_8, cN_9, vN_9, cN_190, vN_190, wpC, stpC, PC, PV, reduceCtorEq]
          refine ⟨fun q1 => ?_, fun q1 => ?_⟩
          · rw [sub_le3 (by omega) (by omega) (by omega)] at q1
            refine ⟨?_, sty s2 hs2⟩
            rw [hch]
            show _ = some (Value.int (if pyN S L bs t + fi < q.2 then nI q.1 else nI h0))
            rw [if_neg (by rw [g2]; omega)]
          · rw [sub_le3 (by omega) (by omega) (by omega)] at q1
            refine ⟨?_, sty s2 hs2⟩
            rw [hch]
            show _ = some (Value.int (if pyN S L bs t + fi < q.2 then nI q.1 else nI h0))
            rw [if_pos (by rw [g2]; omega)]
      have ech : chV S L th t = (match fsb S L t (if S 4 t = 1 then 10 else 1) h0 with | some q => if pyN S L bs t + fi < q.2 then nI q.1 else nI h0 | none => nI h0) := by
        unfold chV wishS wsF
        rw [if_neg m3, if_neg m0, eh, nI_clamp (by omega), ef, nI_clamp (by omega), hbs]
        cases fsb S L t (if S 4 t = 1 then 10 else 1) h0 with
        | none => rfl
        | some q =>
          show (match (if pyN S L 1 t + fi < q.2 then some q.1 else none) with | some c => nI c | none => nI h0) = if pyN S L 1 t + fi < q.2 then nI q.1 else nI h0
          by_cases r : pyN S L 1 t + fi < q.2
          · rw [if_pos r, if_pos r]
          · rw [if_neg r, if_neg r]
      by_cases m1 : S 4 t = 1
      · rw [if_pos m1] at ech
        have efs : fsb S L t 10 h0 = amx (fun c => csN S t c) (pyC S L bs t) 100 := by
          unfold fsb
          rw [hbs]
          congr 1
          funext c
          unfold cdR
          exact propext ⟨fun q => q.1, fun q => ⟨q, Or.inl rfl⟩⟩
        rw [efs] at ech
        have e2' := e2
        rw [m1] at e2'
        refine wpC_sound (PC_ok hG _) (by rw [hi]; exact ok_X9_chosen) (hd := [33, 45, 60, 102, 110, 125, 138]) 400 _ _ _ _ _ _ ?_
        simp only [wp, stp, List.mem_cons, List.not_mem_nil, Nat.reduceEqDiff, or_false, or_self, false_or, or_true, true_or, Nat.reduceAdd, ↓reduceIte, List.getElem?_cons_zero, List.getElem?_cons_succ, nthV, List.set_cons_zero, List.set_cons_succ, noL, popA, catS, Value.category, List.length_cons, List.length_nil, Nat.reduceLT, Nat.reduceLeDiff, true_and, and_true, one0, zer1, imp_t, imp_f, ofN_nI, sdead, f20, f21, not_true_eq_false, upC_ap, upC_upC, retC, fitC, isRefT, Option.toList_some, Option.toList_none, List.cons_append, List.nil_append, Nat.lt_add_one, Nat.zero_lt_succ, Nat.le_refl, Nat.add_zero, Nat.zero_add, Nat.one_ne_zero, Nat.zero_ne_one, Nat.lt_irrefl, List.length_set, fa_X9_chosen, hi, hd, hQ, mr_X9_chosen, e, e2', mM_31, mM_32, mM_33, mM_34, mM_35, mM_36, mM_37, mM_38, mM_39, mM_40, mM_41, mM_42, mM_43, mM_44, mM_45, mM_46, mM_47, mM_48, mu_31, mu_32, mu_33, mu_34, mu_35, mu_36, mu_37, mu_38, mu_39, mu_40, mu_41, mu_42, mu_43, mu_44, mu_45, mu_46, mu_47, mu_48, mO_len, mg_0, mg_1, mg_2, mg_3, mg_4, mg_5, mg_6, mg_7, mg_8, mg_9, mg_10, mg_11, mg_12, mg_13, mg_14, mg_15, mg_16, mg_17, mg_18, mg_19, mg_20, mg_21, mg_22, mg_23, mg_24, mg_25, mg_26, mg_27, mg_28, mg_29, mg_30, mg_31, mg_32, mg_33, mg_34, mg_35, ms_2, ms_8, ms_9, ms_10, ms_11, ms_12, ms_13, ms_14, ms_15, ms_16, ms_17, ms_18, ms_19, ms_22, ms_23, ms_32, ms_33, ms_34, ms_35, cN_0, vN_0, cN_1, vN_1, cN_2, vN_2, cN_3, vN_3, cN_4, vN_4, cN_5, vN_5, cN_6, vN_6, cN_7, vN_7, cN_8, vN_8, cN_9, vN_9, cN_190, vN_190, wpC, stpC, PC, PV, reduceCtorEq]
        try simp only [m1f]
        try simp (disch := omega) only [nmod, nI_leI, nI_ltI, nI_eq, nI_clamp, vin_nI, nI_1, fa_lit, nI_add, nI_rm3, nI_rm2, pk_rem, pk_mul, pk_sub, pk_div, nI_eM, nI_Me, nI_pM, nI_pMz, nI_pM0, M1_lt, M1_le, nI_ltM, nI_leM, i8_nI, true_and, and_true, false_implies, true_implies, not_false_eq_true, not_true_eq_false, ne_eq, implies_true, Nat.not_lt_zero, Nat.zero_le, ite_min, max0, Nat.reduceLT, Nat.reduceLeDiff, Nat.reduceEqDiff, Nat.reduceAdd, Nat.reduceMul, Nat.add_zero, Nat.zero_add, e, e2']
        try simp only [m1u]
        refine ⟨by omega, by omega, by omega, by omega, by omega, by omega, by omega, by omega, by omega, _, t9_where hG (by omega) hH hL hs ht, ?_⟩
        rintro v n1 z1 f1 ⟨rfl, rfl, rfl, s1, rfl, hs1⟩
        refine wpC_sound (PC_ok hG _) (by rw [hi]; exact ok_X9_chosen) (hd := [33, 45, 60, 102, 110, 125, 138]) 400 _ _ _ _ _ _ ?_
        simp only [wp, stp, List.mem_cons, List.not_mem_nil, Nat.reduceEqDiff, or_false, or_self, false_or, or_true, true_or, Nat.reduceAdd, ↓reduceIte, List.getElem?_cons_zero, List.getElem?_cons_succ, nthV, List.set_cons_zero, List.set_cons_succ, noL, popA, catS, Value.category, List.length_cons, List.length_nil, Nat.reduceLT, Nat.reduceLeDiff, true_and, and_true, one0, zer1, imp_t, imp_f, ofN_nI, sdead, f20, f21, not_true_eq_false, upC_ap, upC_upC, retC, fitC, isRefT, Option.toList_some, Option.toList_none, List.cons_append, List.nil_append, Nat.lt_add_one, Nat.zero_lt_succ, Nat.le_refl, Nat.add_zero, Nat.zero_add, Nat.one_ne_zero, Nat.zero_ne_one, Nat.lt_irrefl, List.length_set, fa_X9_chosen, hi, hd, hQ, mr_X9_chosen, mM_31, mM_32, mM_33, mM_34, mM_35, mM_36, mM_37, mM_38, mM_39, mM_40, mM_41, mM_42, mM_43, mM_44, mM_45, mM_46, mM_47, mM_48, mu_31, mu_32, mu_33, mu_34, mu_35, mu_36, mu_37, mu_38, mu_39, mu_40, mu_41, mu_42, mu_43, mu_44, mu_45, mu_46, mu_47, mu_48, mO_len, mg_0, mg_1, mg_2, mg_3, mg_4, mg_5, mg_6, mg_7, mg_8, mg_9, mg_10, mg_11, mg_12, mg_13, mg_14, mg_15, mg_16, mg_17, mg_18, mg_19, mg_20, mg_21, mg_22, mg_23, mg_24, mg_25, mg_26, mg_27, mg_28, mg_29, mg_30, mg_31, mg_32, mg_33, mg_34, mg_35, ms_2, ms_8, ms_9, ms_10, ms_11, ms_12, ms_13, ms_14, ms_15, ms_16, ms_17, ms_18, ms_19, ms_22, ms_23, ms_32, ms_33, ms_34, ms_35, cN_0, vN_0, cN_1, vN_1, cN_2, vN_2, cN_3, vN_3, cN_4, vN_4, cN_5, vN_5, cN_6, vN_6, cN_7, vN_7, cN_8, vN_8, cN_9, vN_9, cN_190, vN_190, wpC, stpC, PC, PV, reduceCtorEq]
        exact L110 _ _ _ _ hs1 (fun q hq => ⟨(gr_gs hB (by have := (amx_in hq).1; omega)).mp (amx_in hq).2.1.1.1, (amx_in hq).2.2⟩) ech
      · rw [if_neg m1] at ech
        have hh0 : csN S t h0 := by
          have := hS.2.2.2.1 t ht
          rw [eh] at this
          exact this
        have hc2 : ∀ c, cdR S t 1 h0 c ↔ ((csN S t c ∧ aj4 h0 c) ∨ c = h0) := fun c => by
          unfold cdR
          constructor
          · rintro ⟨q, r | r | r⟩
            · omega
            · exact Or.inr r
            · exact Or.inl ⟨q, r⟩
          · rintro (⟨q, r⟩ | r)
            · exact ⟨q, Or.inr (Or.inr r)⟩
            · rw [r]; exact ⟨hh0, Or.inr (Or.inl rfl)⟩
        have evh : pyC S L 1 t h0 = pyN S L 1 t := by unfold pyN; rw [eh, nI_clamp (by omega)]
        have ech2 : chV S L th t = (match amx (fun c => csN S t c ∧ aj4 h0 c) (pyC S L bs t) 100 with | some q => if pyN S L bs t + fi < q.2 then nI q.1 else nI h0 | none => nI h0) := by
          rw [ech]
          unfold fsb
          rw [hbs]
          rcases amx_home (val := pyC S L 1 t) hc2 (fun q => aj4_ir q.2) 100 with ⟨a1, a2⟩ | ⟨a1, ⟨a2, q, a3, a4⟩ | ⟨a2, a3⟩⟩
          · omega
          · rw [a2]
          · rw [a2]
            show (if pyN S L 1 t + fi < pyC S L 1 t h0 then nI h0 else nI h0) = _
            cases hr : amx (fun c => csN S t c ∧ aj4 h0 c) (pyC S L 1 t) 100 with
            | none => simp
            | some q =>
              have := a3 q hr
              simp only
              rw [if_neg (show ¬ pyN S L 1 t + fi < q.2 by omega), if_neg (by omega)]
        refine wpC_sound (PC_ok hG _) (by rw [hi]; exact ok_X9_chosen) (hd := [33, 45, 60, 102, 110, 125, 138]) 400 _ _ _ _ _ _ ?_
        simp only [wp, stp, List.mem_cons, List.not_mem_nil, Nat.reduceEqDiff, or_false, or_self, false_or, or_true, true_or, Nat.reduceAdd, ↓reduceIte, List.getElem?_cons_zero, List.getElem?_cons_succ, nthV, List.set_cons_zero, List.set_cons_succ, noL, popA, catS, Value.category, List.length_cons, List.length_nil, Nat.reduceLT, Nat.reduceLeDiff, true_and, and_true, one0, zer1, imp_t, imp_f, ofN_nI, sdead, f20, f21, not_true_eq_false, upC_ap, upC_upC, retC, fitC, isRefT, Option.toList_some, Option.toList_none, List.cons_append, List.nil_append, Nat.lt_add_one, Nat.zero_lt_succ, Nat.le_refl, Nat.add_zero, Nat.zero_add, Nat.one_ne_zero, Nat.zero_ne_one, Nat.lt_irrefl, List.length_set, fa_X9_chosen, hi, hd, hQ, mr_X9_chosen, e, e2, mM_31, mM_32, mM_33, mM_34, mM_35, mM_36, mM_37, mM_38, mM_39, mM_40, mM_41, mM_42, mM_43, mM_44, mM_45, mM_46, mM_47, mM_48, mu_31, mu_32, mu_33, mu_34, mu_35, mu_36, mu_37, mu_38, mu_39, mu_40, mu_41, mu_42, mu_43, mu_44, mu_45, mu_46, mu_47, mu_48, mO_len, mg_0, mg_1, mg_2, mg_3, mg_4, mg_5, mg_6, mg_7, mg_8, mg_9, mg_10, mg_11, mg_12, mg_13, mg_14, mg_15, mg_16, mg_17, mg_18, mg_19, mg_20, mg_21, mg_22, mg_23, mg_24, mg_25, mg_26, mg_27, mg_28, mg_29, mg_30, mg_31, mg_32, mg_33, mg_34, mg_35, ms_2, ms_8, ms_9, ms_10, ms_11, ms_12, ms_13, ms_14, ms_15, ms_16, ms_17, ms_18, ms_19, ms_22, ms_23, ms_32, ms_33, ms_34, ms_35, cN_0, vN_0, cN_1, vN_1, cN_2, vN_2, cN_3, vN_3, cN_4, vN_4, cN_5, vN_5, cN_6, vN_6, cN_7, vN_7, cN_8, vN_8, cN_9, vN_9, cN_190, vN_190, wpC, stpC, PC, PV, reduceCtorEq]
        try simp only [m1f]
        try simp (disch := omega) only [nmod, nI_leI, nI_ltI, nI_eq, nI_clamp, vin_nI, nI_1, fa_lit, nI_add, nI_rm3, nI_rm2, pk_rem, pk_mul, pk_sub, pk_div, nI_eM, nI_Me, nI_pM, nI_pMz, nI_pM0, M1_lt, M1_le, nI_ltM, nI_leM, i8_nI, true_and, and_true, false_implies, true_implies, not_false_eq_true, not_true_eq_false, ne_eq, implies_true, Nat.not_lt_zero, Nat.zero_le, ite_min, max0, Nat.reduceLT, Nat.reduceLeDiff, Nat.reduceEqDiff, Nat.reduceAdd, Nat.reduceMul, Nat.add_zero, Nat.zero_add, e, e2]
        try simp only [m1u]
        refine ⟨by omega, by omega, by omega, by omega, fun _ => ⟨by omega, by omega, fun _ => ⟨by omega, by omega, fun _ => ⟨by omega, _, t9_bestBeside hG (by omega) hH hL hs ht hh eh, ?_⟩, fun q => absurd q m1⟩, fun q => absurd q m0⟩, fun q => absurd q m3⟩
        rintro v n1 z1 f1 ⟨rfl, rfl, rfl, s1, rfl, hs1⟩
        exact L110 _ _ _ _ hs1 (fun q hq => ⟨(gr_gs hB (by have := (amx_in hq).1; omega)).mp (amx_in hq).2.1.1.1.1, (amx_in hq).2.2⟩) ech2
end M8s
