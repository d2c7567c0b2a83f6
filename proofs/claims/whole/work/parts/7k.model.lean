-- the reference: evenings
set_option maxRecDepth 100000
set_option maxHeartbeats 4000000
theorem upS_cm {S : Sta} {j i j' i' : Nat} {v w : Int32} (h : ¬ (j = j' ∧ i = i')) : upS (upS S j i v) j' i' w = upS (upS S j' i' w) j i v := by
  funext a b
  rw [upS_ap, upS_ap, upS_ap, upS_ap]
  by_cases q1 : a = j ∧ b = i
  · rw [if_pos q1, if_neg (fun r => h ⟨q1.1.symm.trans r.1, q1.2.symm.trans r.2⟩), if_pos q1]
  · rw [if_neg q1, if_neg q1]
section Mks
variable {G : Gam} {d n z tl : Nat} {f f0 : Mf} {I W : Nat → Int32} {A : Nat → Nat → Int32} {s : Sc} {S S' : Sta} {bs gn : Int32} {L : Lw} {tb : Nat → Nat} {fk fp : Int32} {kp : Option (Sta × Lw)}
theorem HV.c (h : HV S L I W s) {W' : Nat → Int32} (hS : SmC S S') (hW : WR S' 1 (-1) W') (hw : ∀ i, 190 ≤ i → W' i = W i) : HV S' L I W' s :=
  h.cg ⟨hS.vs h.1.1, h.1.2.cg (hS.1 4 (by omega) (by omega)) (hS.2 8 (by omega) (by omega) (by omega))⟩ hW hw (opS_cg (hS.1 0 (by omega) (by omega)) (hS.1 1 (by omega) (by omega)) (hS.2 1 (by omega) (by omega) (by omega)) 1)
theorem HV.pyT (h : HV S L I W s) {t : Nat} (ht : t < tn S) (a g : Int32) : HV (pyT S t a g) L I (upd (upd (upd W (120 + 6 * t + 3) (S 5 t + a)) (120 + 6 * t + 4) (S 6 t + g)) 9 (S 0 9 + a)) s := by
  have hB := h.1.1.1.1
  have h10 := hB.1.2
  have e : CFarFromAnybodyLaw_law_r9959_c62770.pyT S t a g = upS (upS (upS S 5 t (S 5 t + a)) 6 t (S 6 t + g)) 0 9 (S 0 9 + a) := by
    unfold CFarFromAnybodyLaw_law_r9959_c62770.pyT
    rw [upS_cm (by omega)]
  have hC : SmC S (CFarFromAnybodyLaw_law_r9959_c62770.pyT S t a g) := (SmC.refl S).pyT t a g
  have hB1 : Bd (upS S 5 t (S 5 t + a)) := by
    unfold Bd tn mn
    rw [upS_row (by omega)]; exact hB
  refine h.c hC ?_ (fun i hi => by rw [upd_ap, if_neg (by omega), upd_ap, if_neg (by omega), upd_ap, if_neg (by omega)])
  rw [e]
  exact ((h.2.1.upT hB (j := 3) (by omega) ht _).upT hB1 (j := 4) (by omega) (by unfold tn at ht ⊢; rw [upS_row (by omega)]; exact ht) _).up0 (by omega) (by omega) (by omega) _
theorem t9_evenings (hG : Ok G) (hd1 : 14 ≤ d) (h : RM S L tb tl fk fp kp I W A s) (v : Int32) : Tr G d 189 [.ref 31, .int v] n z (mM f0 I W A s) (RX (evnR S L v).1 L tb tl fk fp kp n z f0 (evnR S L v).2) := by
  obtain ⟨w0, w1, w2, w3, w4, w5, w6, w7, w8, w9⟩ := h.1.2.1.ten
  have t1 : (1 : Int32).toInt = 1 := rfl
  have t0 : (0 : Int32).toInt = 0 := rfl
  refine Tr.of2 (ls0 := [.ref 31, .int v, dead, dead, dead, dead]) hG mo_X9_evenings (Nat.le_of_ble_eq_true rfl) rfl ?_
  intro X hi hd hXn hXz hXf hQ
  by_cases hp : (¬ v < 1 ∧ ¬ 200 < v) ∧ S 0 8 + v ≤ 9999
  · have e : evnR S L v = ((evI L S v.toNatClampNeg).1, nI (evI L S v.toNatClampNeg).2) := by unfold evnR; rw [if_pos hp]
    rw [e] at hQ
    obtain ⟨N, hN, rfl⟩ := nI_of2 (M := 200) (n := 200) (x := v) rfl (fun hx => hp.1.1 (by rw [Int32.lt_iff_toInt_lt] at hx ⊢; omega)) (Int32.not_lt.mp hp.1.2)
    rw [nI_clamp (by omega)] at hQ
    have htn : ∀ i, VS (evI L S i).1 ∧ tn (evI L S i).1 = tn S := by
      intro i
      induction i with
      | zero => exact ⟨h.1.1.1, rfl⟩
      | succ i ih =>
        refine ⟨eveS_vs ih.1, ?_⟩
        have hn := (noonS_ok (L := L) (th := 0) ih.1).2
        show tn (upS _ 0 8 _) = _
        unfold tn
        rw [upS_0 (by omega), (pay1_ok (L := L) (S := (noonS L 0 (evI L S i).1).1) (go := (noonS L 0 (evI L S i).1).2.1) _).1.1 3 (by omega) (by omega), hn.1 3 (by omega)]
        exact ih.2
    have h10 := h.1.1.1.1.1.1.2
    have cnt : ∀ i, (evI L S i).2 ≤ 10 * i := by
      intro i
      induction i with
      | zero => exact Nat.le_refl _
      | succ i ih =>
        have := noon_cnt (L := L) (S := (evI L S i).1) (th := 0)
        rw [(htn i).2] at this
        show (evI L S i).2 + (noonS L 0 (evI L S i).1).2.2 ≤ _
        omega
    have loop : ∀ j i W A' s u4 u5, i + j = N → HV (evI L S i).1 L I W s → (∀ j, ¬ j = 41 → ¬ j = 42 → A' j = A j) → V G X 32 [.ref 31, .int (nI N), .int (nI (evI L S i).2), .int (nI i), u4, u5] [] n z (mM f0 I W A' s) := by
      intro j
      induction j with
      | zero =>
        intro i W A' s u4 u5 hi' hH hA
        have : i = N := by omega
        subst this
        refine wpC_sound (PC_ok hG _) (by rw [hi]; exact ok_X9_evenings) (hd := [32, 43, 48, 65]) 400 _ _ _ _ _ _ ?_
        simp only [wp, stp, List.mem_cons, List.not_mem_nil, Nat.reduceEqDiff, or_false, or_self, false_or, or_true, true_or, Nat.reduceAdd, ↓reduceIte, List.getElem?_cons_zero, List.getElem?_cons_succ, nthV, List.set_cons_zero, List.set_cons_succ, noL, popA, catS, Value.category, List.length_cons, List.length_nil, Nat.reduceLT, Nat.reduceLeDiff, true_and, and_true, one0, zer1, imp_t, imp_f, ofN_nI, sdead, f20, f21, not_true_eq_false, upC_ap, upC_upC, retC, fitC, isRefT, Option.toList_some, Option.toList_none, List.cons_append, List.nil_append, Nat.lt_add_one, Nat.zero_lt_succ, Nat.le_refl, Nat.add_zero, Nat.zero_add, Nat.one_ne_zero, Nat.zero_ne_one, Nat.lt_irrefl, List.length_set, fa_X9_evenings, hi, hd, hQ, mr_X9_evenings, mM_31, mM_32, mM_33, mM_34, mM_35, mM_36, mM_37, mM_38, mM_39, mM_40, mM_41, mM_42, mM_43, mM_44, mM_45, mM_46, mM_47, mM_48, mu_31, mu_32, mu_33, mu_34, mu_35, mu_36, mu_37, mu_38, mu_39, mu_40, mu_41, mu_42, mu_43, mu_44, mu_45, mu_46, mu_47, mu_48, mO_len, mg_0, mg_1, mg_2, mg_3, mg_4, mg_5, mg_6, mg_7, mg_8, mg_9, mg_10, mg_11, mg_12, mg_13, mg_14, mg_15, mg_16, mg_17, mg_18, mg_19, mg_20, mg_21, mg_22, mg_23, mg_24, mg_25, mg_26, mg_27, mg_28, mg_29, mg_30, mg_31, mg_32, mg_33, mg_34, mg_35, ms_2, ms_8, ms_9, ms_10, ms_11, ms_12, ms_13, ms_14, ms_15, ms_16, ms_17, ms_18, ms_19, ms_22, ms_23, ms_32, ms_33, ms_34, ms_35, cN_0, vN_0, cN_1, vN_1, cN_2, vN_2, cN_3, vN_3, cN_4, vN_4, cN_5, vN_5, cN_6, vN_6, cN_7, vN_7, cN_8, vN_8, cN_9, vN_9, cN_190, vN_190, wpC, stpC, PC, PV, reduceCtorEq]
        try simp only [m1f]
        try simp (disch := omega) only [nmod, nI_leI, nI_ltI, nI_eq, nI_clamp, vin_nI, nI_1, fa_lit, nI_add, nI_rm3, nI_rm2, pk_rem, pk_mul, pk_sub, pk_div, nI_eM, nI_Me, nI_pM, nI_pMz, nI_pM0, M1_lt, M1_le, nI_ltM, nI_leM, i8_nI, true_and, and_true, false_implies, true_implies, not_false_eq_true, not_true_eq_false, ne_eq, implies_true, Nat.not_lt_zero, Nat.zero_le, ite_min, max0, Nat.reduceLT, Nat.reduceLeDiff, Nat.reduceEqDiff, Nat.reduceAdd, Nat.reduceMul, Nat.add_zero, Nat.zero_add]
        try simp only [m1u]
        refine ⟨fun _ => RX.i rfl ⟨hH, ⟨h.2.1.1, h.2.1.2.1, fun j hj => by rw [hA 36 (by omega) (by omega)]; exact h.2.1.2.2 j hj⟩, h.2.2.1, ?_⟩, fun q => absurd (Nat.le_refl _) q⟩
        have := h.2.2.2
        unfold RKp at this ⊢
        split
        · exact this
        · rw [hA 33 (by omega) (by omega)]; exact this
      | succ j ih =>
        intro i W A' s u4 u5 hi' hH hA
        have hiN : ¬ N ≤ i := by omega
        have hci := cnt i
        obtain ⟨hvi, hti⟩ := htn i
        have hnc := noon_cnt (L := L) (S := (evI L S i).1) (th := 0)
        obtain ⟨T, hT⟩ : ∃ T, T = (evI L S i).1 := ⟨_, rfl⟩
        have hnx : evI L S (i + 1) = (eveS L T, (evI L S i).2 + (noonS L 0 T).2.2) := by rw [hT]; rfl
        rw [← hT] at hH hvi hti hnc
        refine wpC_sound (PC_ok hG _) (by rw [hi]; exact ok_X9_evenings) (hd := [32, 43, 48, 65]) 400 _ _ _ _ _ _ ?_
        simp only [wp, stp, List.mem_cons, List.not_mem_nil, Nat.reduceEqDiff, or_false, or_self, false_or, or_true, true_or, Nat.reduceAdd, ↓reduceIte, List.getElem?_cons_zero, List.getElem?_cons_succ, nthV, List.set_cons_zero, List.set_cons_succ, noL, popA, catS, Value.category, List.length_cons, List.length_nil, Nat.reduceLT, Nat.reduceLeDiff, true_and, and_true, one0, zer1, imp_t, imp_f, ofN_nI, sdead, f20, f21, not_true_eq_false, upC_ap, upC_upC, retC, fitC, isRefT, Option.toList_some, Option.toList_none, List.cons_append, List.nil_append, Nat.lt_add_one, Nat.zero_lt_succ, Nat.le_refl, Nat.add_zero, Nat.zero_add, Nat.one_ne_zero, Nat.zero_ne_one, Nat.lt_irrefl, List.length_set, fa_X9_evenings, hi, hd, hQ, mr_X9_evenings, hiN, mM_31, mM_32, mM_33, mM_34, mM_35, mM_36, mM_37, mM_38, mM_39, mM_40, mM_41, mM_42, mM_43, mM_44, mM_45, mM_46, mM_47, mM_48, mu_31, mu_32, mu_33, mu_34, mu_35, mu_36, mu_37, mu_38, mu_39, mu_40, mu_41, mu_42, mu_43, mu_44, mu_45, mu_46, mu_47, mu_48, mO_len, mg_0, mg_1, mg_2, mg_3, mg_4, mg_5, mg_6, mg_7, mg_8, mg_9, mg_10, mg_11, mg_12, mg_13, mg_14, mg_15, mg_16, mg_17, mg_18, mg_19, mg_20, mg_21, mg_22, mg_23, mg_24, mg_25, mg_26, mg_27, mg_28, mg_29, mg_30, mg_31, mg_32, mg_33, mg_34, mg_35, ms_2, ms_8, ms_9, ms_10, ms_11, ms_12, ms_13, ms_14, ms_15, ms_16, ms_17, ms_18, ms_19, ms_22, ms_23, ms_32, ms_33, ms_34, ms_35, cN_0, vN_0, cN_1, vN_1, cN_2, vN_2, cN_3, vN_3, cN_4, vN_4, cN_5, vN_5, cN_6, vN_6, cN_7, vN_7, cN_8, vN_8, cN_9, vN_9, cN_190, vN_190, wpC, stpC, PC, PV, reduceCtorEq]
        try simp only [m1f]
        try simp (disch := omega) only [nmod, nI_leI, nI_ltI, nI_eq, nI_clamp, vin_nI, nI_1, fa_lit, nI_add, nI_rm3, nI_rm2, pk_rem, pk_mul, pk_sub, pk_div, nI_eM, nI_Me, nI_pM, nI_pMz, nI_pM0, M1_lt, M1_le, nI_ltM, nI_leM, i8_nI, true_and, and_true, false_implies, true_implies, not_false_eq_true, not_true_eq_false, ne_eq, implies_true, Nat.not_lt_zero, Nat.zero_le, ite_min, max0, Nat.reduceLT, Nat.reduceLeDiff, Nat.reduceEqDiff, Nat.reduceAdd, Nat.reduceMul, Nat.add_zero, Nat.zero_add, hiN]
        try simp only [m1u]
        refine ⟨by omega, _, t9_noon (th := 0) hG (by omega) hH (Or.inl rfl), ?_⟩
        rintro v n1 z1 f1 ⟨rfl, rfl, rfl, W1, A1, s1, rfl, hH1, hA1, hgo⟩
        obtain ⟨Sn, hSn⟩ : ∃ Sn, Sn = (noonS L 0 T).1 := ⟨_, rfl⟩
        obtain ⟨go, hgo0⟩ : ∃ go, go = (noonS L 0 T).2.1 := ⟨_, rfl⟩
        obtain ⟨nc, hnc0⟩ : ∃ nc, nc = (noonS L 0 T).2.2 := ⟨_, rfl⟩
        have hno := (noonS_ok (L := L) (th := 0) hvi)
        have eev : eveS L T = upS (pay1 L Sn go (tn T)) 0 8 (pay1 L Sn go (tn T) 0 8 + 1) := by rw [hSn, hgo0]; rfl
        rw [eev, ← hnc0] at hnx
        rw [← hgo0] at hgo
        rw [← hSn] at hH1 hno
        rw [← hnc0] at hnc ⊢
        have htS : tn Sn = tn T := hno.2.etn
        have inn : ∀ m k W s u5, k + m = tn T → HV (pay1 L Sn go k) L I W s → V G X 48 [.ref 31, .int (nI N), .int (nI ((evI L S i).2 + nc)), .int (nI i), .int (nI k), u5] [] n1 z1 (mM f0 I W A1 s) := by
          intro m
          induction m with
          | zero =>
            intro k W s u5 hk hK
            have : k = tn T := by omega
            subst this
            obtain ⟨w0, w1, w2, w3, w4, w5, w6, w7, w8, w9⟩ := hK.2.1.ten
            obtain ⟨⟨b1, b2⟩, -⟩ := id hK.1.1.1.1
            have etk : tn (pay1 L Sn go (tn T)) = tn T := by unfold tn; rw [(pay1_ok (L := L) (S := Sn) (go := go) _).1.1 3 (by omega) (by omega)]; exact htS
            rw [etk] at b1 b2
            have hle : nI (tn T) ≤ nI (tn T) := (nI_leI (by omega) (by omega)).mpr (Nat.le_refl _)
            have hi1 : nI i + 1 = nI (i + 1) := nI_1 i
            refine wpC_sound (PC_ok hG _) (by rw [hi]; exact ok_X9_evenings) (hd := [32, 43, 48, 65]) 400 _ _ _ _ _ _ ?_
            simp only [wp, stp, List.mem_cons, List.not_mem_nil, Nat.reduceEqDiff, or_false, or_self, false_or, or_true, true_or, Nat.reduceAdd, ↓reduceIte, List.getElem?_cons_zero, List.getElem?_cons_succ, nthV, List.set_cons_zero, List.set_cons_succ, noL, popA, catS, Value.category, List.length_cons, List.length_nil, Nat.reduceLT, Nat.reduceLeDiff, true_and, and_true, one0, zer1, imp_t, imp_f, ofN_nI, sdead, f20, f21, not_true_eq_false, upC_ap, upC_upC, retC, fitC, isRefT, Option.toList_some, Option.toList_none, List.cons_append, List.nil_append, Nat.lt_add_one, Nat.zero_lt_succ, Nat.le_refl, Nat.add_zero, Nat.zero_add, Nat.one_ne_zero, Nat.zero_ne_one, Nat.lt_irrefl, List.length_set, fa_X9_evenings, hi, hd, hQ, mr_X9_evenings, w3, b1, hle, w8, hi1, true_implies, mM_31, mM_32, mM_33, mM_34, mM_35, mM_36, mM_37, mM_38, mM_39, mM_40, mM_41, mM_42, mM_43, mM_44, mM_45, mM_46, mM_47, mM_48, mu_31, mu_32, mu_33, mu_34, mu_35, mu_36, mu_37, mu_38, mu_39, mu_40, mu_41, mu_42, mu_43, mu_44, mu_45, mu_46, mu_47, mu_48, mO_len, mg_0, mg_1, mg_2, mg_3, mg_4, mg_5, mg_6, mg_7, mg_8, mg_9, mg_10, mg_11, mg_12, mg_13, mg_14, mg_15, mg_16, mg_17, mg_18, mg_19, mg_20, mg_21, mg_22, mg_23, mg_24, mg_25, mg_26, mg_27, mg_28, mg_29, mg_30, mg_31, mg_32, mg_33, mg_34, mg_35, ms_2, ms_8, ms_9, ms_10, ms_11, ms_12, ms_13, ms_14, ms_15, ms_16, ms_17, ms_18, ms_19, ms_22, ms_23, ms_32, ms_33, ms_34, ms_35, cN_0, vN_0, cN_1, vN_1, cN_2, vN_2, cN_3, vN_3, cN_4, vN_4, cN_5, vN_5, cN_6, vN_6, cN_7, vN_7, cN_8, vN_8, cN_9, vN_9, cN_190, vN_190, wpC, stpC, PC, PV, reduceCtorEq]
            have := ih (i + 1) (upd W 8 (pay1 L Sn go (tn T) 0 8 + 1)) A1 s (.int (nI (tn T))) u5 (by omega) (by rw [hnx]; exact hK.c (SmC.num _ (Or.inl rfl)) (hK.2.1.up0 (by omega) (by omega) (by omega) _) (fun i hi => by rw [upd_ap, if_neg (by omega)])) (fun j a b => (hA1 j a b).trans (hA j a b))
            rw [hnx] at this
            exact this
          | succ m ihm =>
            intro k W s u5 hk hK
            obtain ⟨w0, w1, w2, w3, w4, w5, w6, w7, w8, w9⟩ := hK.2.1.ten
            obtain ⟨⟨b1, b2⟩, -⟩ := id hK.1.1.1.1
            have hok := pay1_ok (L := L) (S := Sn) (go := go) k
            have etk : tn (pay1 L Sn go k) = tn T := by unfold tn; rw [hok.1.1 3 (by omega) (by omega)]; exact htS
            rw [etk] at b1 b2
            have hkk : ¬ nI (tn T) ≤ nI k := by rw [nI_leI (by omega) (by omega)]; omega
            have hkT : k < tn (pay1 L Sn go k) := by omega
            have hgt : ¬ nI k = -1 := fun q => (nI_em (by omega)).mp q
            have hsm : SmP Sn (pay1 L Sn go k) := hok.1.smp hok.2
            have e3 := hK.2.1.2.2.1 3 k (by omega) (by omega) hkT
            have e4 := hK.2.1.2.2.1 4 k (by omega) (by omega) hkT
            simp only [Nat.reduceAdd] at e3 e4
            have e6 : pay1 L Sn go k 0 6 = Sn 0 6 := hok.1.1 6 (by omega) (by omega)
            have hc3 : (120 + 6 * nI k + 3).toNatClampNeg = 120 + 6 * k + 3 := by
              rw [show (120 : Int32) = nI 120 from rfl, show (6 : Int32) = nI 6 from rfl, show (3 : Int32) = nI 3 from rfl, pk_mul, nI_add, nI_add, nI_clamp (by omega)]
            have hc4 : (120 + 6 * nI k + 4).toNatClampNeg = 120 + 6 * k + 4 := by
              rw [show (120 : Int32) = nI 120 from rfl, show (6 : Int32) = nI 6 from rfl, show (4 : Int32) = nI 4 from rfl, pk_mul, nI_add, nI_add, nI_clamp (by omega)]
            have hv3 : vp_in (120 + 6 * nI k + 3) 1075 := by
              rw [show (120 : Int32) = nI 120 from rfl, show (6 : Int32) = nI 6 from rfl, show (3 : Int32) = nI 3 from rfl, pk_mul, nI_add, nI_add, vin_nI (by omega)]; omega
            have hv4 : vp_in (120 + 6 * nI k + 4) 1075 := by
              rw [show (120 : Int32) = nI 120 from rfl, show (6 : Int32) = nI 6 from rfl, show (4 : Int32) = nI 4 from rfl, pk_mul, nI_add, nI_add, vin_nI (by omega)]; omega
            have hck : (nI k).toNatClampNeg = k := nI_clamp (by omega)
            refine wpC_sound (PC_ok hG _) (by rw [hi]; exact ok_X9_evenings) (hd := [32, 43, 48, 65]) 400 _ _ _ _ _ _ ?_
            simp only [wp, stp, List.mem_cons, List.not_mem_nil, Nat.reduceEqDiff, or_false, or_self, false_or, or_true, true_or, Nat.reduceAdd, ↓reduceIte, List.getElem?_cons_zero, List.getElem?_cons_succ, nthV, List.set_cons_zero, List.set_cons_succ, noL, popA, catS, Value.category, List.length_cons, List.length_nil, Nat.reduceLT, Nat.reduceLeDiff, true_and, and_true, one0, zer1, imp_t, imp_f, ofN_nI, sdead, f20, f21, not_true_eq_false, upC_ap, upC_upC, retC, fitC, isRefT, Option.toList_some, Option.toList_none, List.cons_append, List.nil_append, Nat.lt_add_one, Nat.zero_lt_succ, Nat.le_refl, Nat.add_zero, Nat.zero_add, Nat.one_ne_zero, Nat.zero_ne_one, Nat.lt_irrefl, List.length_set, fa_X9_evenings, hi, hd, hQ, mr_X9_evenings, w3, b1, hkk, true_implies, mM_31, mM_32, mM_33, mM_34, mM_35, mM_36, mM_37, mM_38, mM_39, mM_40, mM_41, mM_42, mM_43, mM_44, mM_45, mM_46, mM_47, mM_48, mu_31, mu_32, mu_33, mu_34, mu_35, mu_36, mu_37, mu_38, mu_39, mu_40, mu_41, mu_42, mu_43, mu_44, mu_45, mu_46, mu_47, mu_48, mO_len, mg_0, mg_1, mg_2, mg_3, mg_4, mg_5, mg_6, mg_7, mg_8, mg_9, mg_10, mg_11, mg_12, mg_13, mg_14, mg_15, mg_16, mg_17, mg_18, mg_19, mg_20, mg_21, mg_22, mg_23, mg_24, mg_25, mg_26, mg_27, mg_28, mg_29, mg_30, mg_31, mg_32, mg_33, mg_34, mg_35, ms_2, ms_8, ms_9, ms_10, ms_11, ms_12, ms_13, ms_14, ms_15, ms_16, ms_17, ms_18, ms_19, ms_22, ms_23, ms_32, ms_33, ms_34, ms_35, cN_0, vN_0, cN_1, vN_1, cN_2, vN_2, cN_3, vN_3, cN_4, vN_4, cN_5, vN_5, cN_6, vN_6, cN_7, vN_7, cN_8, vN_8, cN_9, vN_9, cN_190, vN_190, wpC, stpC, PC, PV, reduceCtorEq]
            refine ⟨by omega, _, t9_payOf hG (by omega) hK.hb hK.2.2.1 hK.2.2.2.1 hkT hgt, ?_⟩
            rintro v n2 z2 f2 ⟨rfl, rfl, rfl, s2, rfl, hs2⟩
            rw [hsm.py]
            obtain ⟨got, hgot⟩ : ∃ got, got = nI (pyN Sn L 1 k) - go k * Sn 0 6 := ⟨_, rfl⟩
            have hg42 : A1 42 k = go k := hgo k (by omega)
            have u4 : ∀ x, upd W (120 + 6 * k + 3) x (120 + 6 * k + 4) = pay1 L Sn go k 6 k := fun x => by rw [upd_ap, if_neg (by omega)]; exact e4
            have u9 : ∀ x y, upd (upd W (120 + 6 * k + 3) x) (120 + 6 * k + 4) y 9 = pay1 L Sn go k 0 9 := fun x y => by rw [upd_ap, if_neg (by omega), upd_ap, if_neg (by omega)]; exact w9
            have hk1 : nI k + 1 = nI (k + 1) := nI_1 k
            refine wpC_sound (PC_ok hG _) (by rw [hi]; exact ok_X9_evenings) (hd := [32, 43, 48, 65]) 400 _ _ _ _ _ _ ?_
            simp only [wp, stp, List.mem_cons, List.not_mem_nil, Nat.reduceEqDiff, or_false, or_self, false_or, or_true, true_or, Nat.reduceAdd, ↓reduceIte, List.getElem?_cons_zero, List.getElem?_cons_succ, nthV, List.set_cons_zero, List.set_cons_succ, noL, popA, catS, Value.category, List.length_cons, List.length_nil, Nat.reduceLT, Nat.reduceLeDiff, true_and, and_true, one0, zer1, imp_t, imp_f, ofN_nI, sdead, f20, f21, not_true_eq_false, upC_ap, upC_upC, retC, fitC, isRefT, Option.toList_some, Option.toList_none, List.cons_append, List.nil_append, Nat.lt_add_one, Nat.zero_lt_succ, Nat.le_refl, Nat.add_zero, Nat.zero_add, Nat.one_ne_zero, Nat.zero_ne_one, Nat.lt_irrefl, List.length_set, fa_X9_evenings, hi, hd, hQ, mr_X9_evenings, hck, hg42, w6, e6, ← hgot, hc3, hc4, e3, u4, u9, hk1, mM_31, mM_32, mM_33, mM_34, mM_35, mM_36, mM_37, mM_38, mM_39, mM_40, mM_41, mM_42, mM_43, mM_44, mM_45, mM_46, mM_47, mM_48, mu_31, mu_32, mu_33, mu_34, mu_35, mu_36, mu_37, mu_38, mu_39, mu_40, mu_41, mu_42, mu_43, mu_44, mu_45, mu_46, mu_47, mu_48, mO_len, mg_0, mg_1, mg_2, mg_3, mg_4, mg_5, mg_6, mg_7, mg_8, mg_9, mg_10, mg_11, mg_12, mg_13, mg_14, mg_15, mg_16, mg_17, mg_18, mg_19, mg_20, mg_21, mg_22, mg_23, mg_24, mg_25, mg_26, mg_27, mg_28, mg_29, mg_30, mg_31, mg_32, mg_33, mg_34, mg_35, ms_2, ms_8, ms_9, ms_10, ms_11, ms_12, ms_13, ms_14, ms_15, ms_16, ms_17, ms_18, ms_19, ms_22, ms_23, ms_32, ms_33, ms_34, ms_35, cN_0, vN_0, cN_1, vN_1, cN_2, vN_2, cN_3, vN_3, cN_4, vN_4, cN_5, vN_5, cN_6, vN_6, cN_7, vN_7, cN_8, vN_8, cN_9, vN_9, cN_190, vN_190, wpC, stpC, PC, PV, reduceCtorEq]
            refine ⟨(vin_nI (by omega)).mpr (by omega), by omega, hv3, by omega, hv3, by omega, hv4, (vin_nI (by omega)).mpr (by omega), by omega, hv4, ?_⟩
            have hpy := HV.pyT (s := s2) ⟨hK.1, hK.2.1, hK.2.2.1, hs2, hK.2.2.2.2⟩ hkT got (go k)
            have enx : pay1 L Sn go (k + 1) = CFarFromAnybodyLaw_law_r9959_c62770.pyT (pay1 L Sn go k) k got (go k) := by rw [hgot]; rfl
            exact ihm (k + 1) _ s2 (.int got) (by omega) (by rw [enx]; exact hpy)
        have hin0 := inn (tn T) 0 W1 s1
        refine wpC_sound (PC_ok hG _) (by rw [hi]; exact ok_X9_evenings) (hd := [32, 43, 48, 65]) 400 _ _ _ _ _ _ ?_
        simp only [wp, stp, List.mem_cons, List.not_mem_nil, Nat.reduceEqDiff, or_false, or_self, false_or, or_true, true_or, Nat.reduceAdd, ↓reduceIte, List.getElem?_cons_zero, List.getElem?_cons_succ, nthV, List.set_cons_zero, List.set_cons_succ, noL, popA, catS, Value.category, List.length_cons, List.length_nil, Nat.reduceLT, Nat.reduceLeDiff, true_and, and_true, one0, zer1, imp_t, imp_f, ofN_nI, sdead, f20, f21, not_true_eq_false, upC_ap, upC_upC, retC, fitC, isRefT, Option.toList_some, Option.toList_none, List.cons_append, List.nil_append, Nat.lt_add_one, Nat.zero_lt_succ, Nat.le_refl, Nat.add_zero, Nat.zero_add, Nat.one_ne_zero, Nat.zero_ne_one, Nat.lt_irrefl, List.length_set, fa_X9_evenings, hi, hd, hQ, mr_X9_evenings, mM_31, mM_32, mM_33, mM_34, mM_35, mM_36, mM_37, mM_38, mM_39, mM_40, mM_41, mM_42, mM_43, mM_44, mM_45, mM_46, mM_47, mM_48, mu_31, mu_32, mu_33, mu_34, mu_35, mu_36, mu_37, mu_38, mu_39, mu_40, mu_41, mu_42, mu_43, mu_44, mu_45, mu_46, mu_47, mu_48, mO_len, mg_0, mg_1, mg_2, mg_3, mg_4, mg_5, mg_6, mg_7, mg_8, mg_9, mg_10, mg_11, mg_12, mg_13, mg_14, mg_15, mg_16, mg_17, mg_18, mg_19, mg_20, mg_21, mg_22, mg_23, mg_24, mg_25, mg_26, mg_27, mg_28, mg_29, mg_30, mg_31, mg_32, mg_33, mg_34, mg_35, ms_2, ms_8, ms_9, ms_10, ms_11, ms_12, ms_13, ms_14, ms_15, ms_16, ms_17, ms_18, ms_19, ms_22, ms_23, ms_32, ms_33, ms_34, ms_35, cN_0, vN_0, cN_1, vN_1, cN_2, vN_2, cN_3, vN_3, cN_4, vN_4, cN_5, vN_5, cN_6, vN_6, cN_7, vN_7, cN_8, vN_8, cN_9, vN_9, cN_190, vN_190, wpC, stpC, PC, PV, reduceCtorEq]
        try simp only [m1f]
        try simp (disch := omega) only [nmod, nI_leI, nI_ltI, nI_eq, nI_clamp, vin_nI, nI_1, fa_lit, nI_add, nI_rm3, nI_rm2, pk_rem, pk_mul, pk_sub, pk_div, nI_eM, nI_Me, nI_pM, nI_pMz, nI_pM0, M1_lt, M1_le, nI_ltM, nI_leM, i8_nI, true_and, and_true, false_implies, true_implies, not_false_eq_true, not_true_eq_false, ne_eq, implies_true, Nat.not_lt_zero, Nat.zero_le, ite_min, max0, Nat.reduceLT, Nat.reduceLeDiff, Nat.reduceEqDiff, Nat.reduceAdd, Nat.reduceMul, Nat.add_zero, Nat.zero_add]
        try simp only [m1u]
        exact hin0 _ (by omega) hH1
    refine wpC_sound (PC_ok hG _) (by rw [hi]; exact ok_X9_evenings) (hd := [32, 43, 48, 65]) 400 _ _ _ _ _ _ ?_
    simp only [wp, stp, List.mem_cons, List.not_mem_nil, Nat.reduceEqDiff, or_false, or_self, false_or, or_true, true_or, Nat.reduceAdd, ↓reduceIte, List.getElem?_cons_zero, List.getElem?_cons_succ, nthV, List.set_cons_zero, List.set_cons_succ, noL, popA, catS, Value.category, List.length_cons, List.length_nil, Nat.reduceLT, Nat.reduceLeDiff, true_and, and_true, one0, zer1, imp_t, imp_f, ofN_nI, sdead, f20, f21, not_true_eq_false, upC_ap, upC_upC, retC, fitC, isRefT, Option.toList_some, Option.toList_none, List.cons_append, List.nil_append, Nat.lt_add_one, Nat.zero_lt_succ, Nat.le_refl, Nat.add_zero, Nat.zero_add, Nat.one_ne_zero, Nat.zero_ne_one, Nat.lt_irrefl, List.length_set, fa_X9_evenings, hi, hd, hQ, mr_X9_evenings, bI_0, w8, mM_31, mM_32, mM_33, mM_34, mM_35, mM_36, mM_37, mM_38, mM_39, mM_40, mM_41, mM_42, mM_43, mM_44, mM_45, mM_46, mM_47, mM_48, mu_31, mu_32, mu_33, mu_34, mu_35, mu_36, mu_37, mu_38, mu_39, mu_40, mu_41, mu_42, mu_43, mu_44, mu_45, mu_46, mu_47, mu_48, mO_len, mg_0, mg_1, mg_2, mg_3, mg_4, mg_5, mg_6, mg_7, mg_8, mg_9, mg_10, mg_11, mg_12, mg_13, mg_14, mg_15, mg_16, mg_17, mg_18, mg_19, mg_20, mg_21, mg_22, mg_23, mg_24, mg_25, mg_26, mg_27, mg_28, mg_29, mg_30, mg_31, mg_32, mg_33, mg_34, mg_35, ms_2, ms_8, ms_9, ms_10, ms_11, ms_12, ms_13, ms_14, ms_15, ms_16, ms_17, ms_18, ms_19, ms_22, ms_23, ms_32, ms_33, ms_34, ms_35, cN_0, vN_0, cN_1, vN_1, cN_2, vN_2, cN_3, vN_3, cN_4, vN_4, cN_5, vN_5, cN_6, vN_6, cN_7, vN_7, cN_8, vN_8, cN_9, vN_9, cN_190, vN_190, wpC, stpC, PC, PV, reduceCtorEq]
    refine ⟨by omega, fun q => absurd hp.1 q, fun _ => ⟨fun _ => ?_, fun q => absurd hp.2 q⟩⟩
    exact loop N 0 W A s _ _ (by omega) h.1 (fun _ _ _ => rfl)
  · have e : evnR S L v = (S, -1) := by unfold evnR; rw [if_neg hp]
    rw [e] at hQ
    refine wpC_sound (PC_ok hG _) (by rw [hi]; exact ok_X9_evenings) (hd := [28, 32, 43, 48, 65]) 400 _ _ _ _ _ _ ?_
    simp only [wp, stp, List.mem_cons, List.not_mem_nil, Nat.reduceEqDiff, or_false, or_self, false_or, or_true, true_or, Nat.reduceAdd, ↓reduceIte, List.getElem?_cons_zero, List.getElem?_cons_succ, nthV, List.set_cons_zero, List.set_cons_succ, noL, popA, catS, Value.category, List.length_cons, List.length_nil, Nat.reduceLT, Nat.reduceLeDiff, true_and, and_true, one0, zer1, imp_t, imp_f, ofN_nI, sdead, f20, f21, not_true_eq_false, upC_ap, upC_upC, retC, fitC, isRefT, Option.toList_some, Option.toList_none, List.cons_append, List.nil_append, Nat.lt_add_one, Nat.zero_lt_succ, Nat.le_refl, Nat.add_zero, Nat.zero_add, Nat.one_ne_zero, Nat.zero_ne_one, Nat.lt_irrefl, List.length_set, fa_X9_evenings, hi, hd, hQ, mr_X9_evenings, bI_0, w8, mM_31, mM_32, mM_33, mM_34, mM_35, mM_36, mM_37, mM_38, mM_39, mM_40, mM_41, mM_42, mM_43, mM_44, mM_45, mM_46, mM_47, mM_48, mu_31, mu_32, mu_33, mu_34, mu_35, mu_36, mu_37, mu_38, mu_39, mu_40, mu_41, mu_42, mu_43, mu_44, mu_45, mu_46, mu_47, mu_48, mO_len, mg_0, mg_1, mg_2, mg_3, mg_4, mg_5, mg_6, mg_7, mg_8, mg_9, mg_10, mg_11, mg_12, mg_13, mg_14, mg_15, mg_16, mg_17, mg_18, mg_19, mg_20, mg_21, mg_22, mg_23, mg_24, mg_25, mg_26, mg_27, mg_28, mg_29, mg_30, mg_31, mg_32, mg_33, mg_34, mg_35, ms_2, ms_8, ms_9, ms_10, ms_11, ms_12, ms_13, ms_14, ms_15, ms_16, ms_17, ms_18, ms_19, ms_22, ms_23, ms_32, ms_33, ms_34, ms_35, cN_0, vN_0, cN_1, vN_1, cN_2, vN_2, cN_3, vN_3, cN_4, vN_4, cN_5, vN_5, cN_6, vN_6, cN_7, vN_7, cN_8, vN_8, cN_9, vN_9, cN_190, vN_190, wpC, stpC, PC, PV, reduceCtorEq]
    exact ⟨by omega, fun _ => RX.i rfl h, fun q => ⟨fun q1 => absurd ⟨Decidable.not_not.mp q, q1⟩ hp, fun _ => RX.i rfl h⟩⟩
end Mks
