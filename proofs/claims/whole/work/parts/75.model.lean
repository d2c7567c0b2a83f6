-- the reference: what is lawful, what is paid
set_option maxRecDepth 100000
set_option maxHeartbeats 4000000
/-- the yard beside, if it is of the plain -/
def nbO (S : Sta) (c k : Nat) : Option Nat := match rvs c k with | none => none | some v => if v % 10 < wdt S ∧ v / 10 < hgt S then some v else none
def edR (S : Sta) (c k : Nat) : Nat := match nbO S c k with | none => 1 | some _ => 0
def wtR (S : Sta) (c k : Nat) : Nat := match nbO S c k with | none => 0 | some v => if S 1 v = 0 then 0 else 1
/-- the law in the reference's numbers -/
def WL (W : Nat → Int32) (L : Lw) : Prop := ∃ (ls : Lns) (ks vs fr md tt : Nat → Nat) (T : Nat), (W 190 = nI ls.length ∧ ls.length ≤ 16) ∧ (L.1 = nI ls.length ∧ L.2.2 = lwV ls) ∧ T ≤ 410 ∧ StW W ks vs 0 T ∧ ∀ l (e : EV) (c : Option BV), ls[l]? = some (e, c) → (W (195 + l) = nI (fr l) ∧ W (215 + l) = nI (md l) ∧ W (235 + l) = nI (tt l)) ∧ (fr l ≤ md l ∧ md l ≤ tt l ∧ tt l ≤ T) ∧ (∀ F, rnR F ks vs (md l - fr l) (fr l) [] = some [e F]) ∧ (match c with | none => md l = tt l | some b => md l < tt l ∧ ∀ F, rnR F ks vs (tt l - md l) (md l) [] = some [bI (b F = true)])
theorem cm_nI (a : Int32) (h : ¬ a < 0) : (if a < nI 9999 then a else nI 9999) = nI (cmN a) := by
  obtain ⟨k, hk, rfl⟩ := nn_nI h
  unfold cmN
  rw [if_neg h, show (9999 : Int32) = nI 9999 from rfl, nI_clamp (by omega)]
  by_cases q : k < 9999
  · rw [if_pos ((nI_ltI (by omega) (by omega)).mpr q), if_neg (by rw [nI_ltI (by omega) (by omega)]; omega)]
  · rw [if_neg (by rw [nI_ltI (by omega) (by omega)]; omega)]
    by_cases q2 : 9999 < k
    · rw [if_pos ((nI_ltI (by omega) (by omega)).mpr q2)]
    · rw [if_neg (by rw [nI_ltI (by omega) (by omega)]; omega), show k = 9999 by omega]
section M5s
variable {G : Gam} {d n z : Nat} {f f0 : Mf} {I W : Nat → Int32} {A : Nat → Nat → Int32} {s : Sc} {S : Sta} {bs gn : Int32} {L : Lw}
theorem ed_sum {c : Nat} (hc : c < 100 ∧ c % 10 < wdt S ∧ c / 10 < hgt S) (hw : wdt S ≤ 10 ∧ hgt S ≤ 10) : smF (edR S c) 4 = edN S c ∧ smF (wtR S c) 4 = wtN S c := by
  have n0 : nbO S c 0 = if 0 < c / 10 then some (c - 10) else none := by
    unfold nbO rvs
    by_cases q : 0 < c / 10
    · simp only [if_pos q]; rw [if_pos (by omega)]
    · simp only [if_neg q]
  have n1 : nbO S c 1 = if c % 10 + 1 < wdt S then some (c + 1) else none := by
    unfold nbO rvs
    by_cases q : c % 10 < 9
    · simp only [if_pos q]
      by_cases q2 : c % 10 + 1 < wdt S
      · rw [if_pos q2, if_pos (by omega)]
      · rw [if_neg q2, if_neg (by omega)]
    · simp only [if_neg q]; rw [if_neg (by omega)]
  have n2 : nbO S c 2 = if c / 10 + 1 < hgt S then some (c + 10) else none := by
    unfold nbO rvs
    by_cases q : c / 10 < 9
    · simp only [if_pos q]
      by_cases q2 : c / 10 + 1 < hgt S
      · rw [if_pos q2, if_pos (by omega)]
      · rw [if_neg q2, if_neg (by omega)]
    · simp only [if_neg q]; rw [if_neg (by omega)]
  have n3 : nbO S c 3 = if 0 < c % 10 then some (c - 1) else none := by
    unfold nbO rvs
    by_cases q : 0 < c % 10
    · simp only [if_pos q]; rw [if_pos (by omega)]
    · simp only [if_neg q]
  constructor
  · show 0 + edR S c 0 + edR S c 1 + edR S c 2 + edR S c 3 = _
    have a0 : edR S c 0 = if c / 10 = 0 then 1 else 0 := by
      unfold edR; rw [n0]
      by_cases q : 0 < c / 10
      · simp only [if_pos q]; rw [if_neg (by omega)]
      · simp only [if_neg q]; rw [if_pos (by omega)]
    have a1 : edR S c 1 = if c % 10 + 1 = wdt S then 1 else 0 := by
      unfold edR; rw [n1]
      by_cases q : c % 10 + 1 < wdt S
      · simp only [if_pos q]; rw [if_neg (by omega)]
      · simp only [if_neg q]; rw [if_pos (by omega)]
    have a2 : edR S c 2 = if c / 10 + 1 = hgt S then 1 else 0 := by
      unfold edR; rw [n2]
      by_cases q : c / 10 + 1 < hgt S
      · simp only [if_pos q]; rw [if_neg (by omega)]
      · simp only [if_neg q]; rw [if_pos (by omega)]
    have a3 : edR S c 3 = if c % 10 = 0 then 1 else 0 := by
      unfold edR; rw [n3]
      by_cases q : 0 < c % 10
      · simp only [if_pos q]; rw [if_neg (by omega)]
      · simp only [if_neg q]; rw [if_pos (by omega)]
    rw [a0, a1, a2, a3]
    unfold edN
    omega
  · show 0 + wtR S c 0 + wtR S c 1 + wtR S c 2 + wtR S c 3 = _
    unfold wtR wtN
    rw [n0, n1, n2, n3]
    by_cases q0 : 0 < c / 10 <;> by_cases q1 : c % 10 + 1 < wdt S <;> by_cases q2 : c / 10 + 1 < hgt S <;> by_cases q3 : 0 < c % 10 <;> simp only [q0, q1, q2, q3, if_true, if_false, true_and, false_and]
    all_goals repeat' split
    all_goals first | omega | simp_all
theorem edR_le (c k : Nat) : edR S c k ≤ 1 ∧ wtR S c k ≤ 1 := by
  unfold edR wtR
  constructor
  · split <;> omega
  · split
    · omega
    · split <;> omega
theorem t9_lawful (hG : Ok G) (hd1 : 3 ≤ d) (hB : Bd S) (h : WR S bs gn W) (hL : WL W L) (hs : WyM S bs s) {c fa ne ki : Nat} (hc : c < 100 ∧ c % 10 < wdt S ∧ c / 10 < hgt S) : Tr G d 182 [.ref 31, .int (nI c), .int (nI fa), .int (nI ne), .int (nI ki)] n z (mM f0 I W A s) (Rr (nI (cmN (L.2.2 (fcF S c fa ne ki)))) n z f0 I W A S bs) := by
  obtain ⟨w0, w1, w2, w3, w4, w5, w6, w7, w8, w9⟩ := h.ten
  obtain ⟨ls, ks, vs, fr, md, tt, T, ⟨l1, l2⟩, ⟨l3, l4⟩, l5, l6, l7⟩ := hL
  obtain ⟨hw, pi, fc, wy, qu⟩ := s
  have hwh : wdt S ≤ 10 ∧ hgt S ≤ 10 := by
    obtain ⟨-, -, wd, ht, e0, e1, hw1, hw2, hh1, hh2⟩ := id hB
    unfold wdt hgt; rw [e0, e1, nI_clamp (by omega), nI_clamp (by omega)]; omega
  rw [l4]
  obtain ⟨F, hFd⟩ : ∃ F, F = fcF S c fa ne ki := ⟨_, rfl⟩
  rw [← hFd]
  refine Tr.of2 (ls0 := [.ref 31, .int (nI c), .int (nI fa), .int (nI ne), .int (nI ki), dead, dead, dead]) hG mo_X9_lawful (Nat.le_of_ble_eq_true rfl) rfl ?_
  intro X hi hd hXn hXz hXf hQ
  have lop2 : ∀ j i pi fc u6 u7, i + j = ls.length → (∀ j, j < 8 → fc (j + 1) = F j) → lwV ls F = lwV (ls.drop i) F → V G X 171 [.ref 31, .int (nI c), .int (nI fa), .int (nI ne), .int (nI ki), .int (nI i), u6, u7] [] n z (mM f0 I W A (hw, pi, fc, wy, qu)) := by
    intro j
    induction j with
    | zero =>
      intro i pi fc u6 u7 hij hF hv
      have : i = ls.length := by omega
      subst this
      refine wpC_sound (PC_ok hG _) (by rw [hi]; exact ok_X9_lawful) (hd := [75, 87, 101, 171, 235, 268]) 400 _ _ _ _ _ _ ?_
      simp only [wp, stp, List.mem_cons, List.not_mem_nil, Nat.reduceEqDiff, or_false, or_self, false_or, or_true, true_or, Nat.reduceAdd, ↓reduceIte, List.getElem?_cons_zero, List.getElem?_cons_succ, nthV, List.set_cons_zero, List.set_cons_succ, noL, popA, catS, Value.category, List.length_cons, List.length_nil, Nat.reduceLT, Nat.reduceLeDiff, true_and, and_true, one0, zer1, imp_t, imp_f, ofN_nI, sdead, f20, f21, not_true_eq_false, upC_ap, upC_upC, retC, fitC, isRefT, Option.toList_some, Option.toList_none, List.cons_append, List.nil_append, Nat.lt_add_one, Nat.zero_lt_succ, Nat.le_refl, Nat.add_zero, Nat.zero_add, Nat.one_ne_zero, Nat.zero_ne_one, Nat.lt_irrefl, List.length_set, fa_X9_lawful, hi, hd, hQ, mr_X9_lawful, l1, mM_31, mM_32, mM_33, mM_34, mM_35, mM_36, mM_37, mM_38, mM_39, mM_40, mM_41, mM_42, mM_43, mM_44, mM_45, mM_46, mM_47, mM_48, mu_31, mu_32, mu_33, mu_34, mu_35, mu_36, mu_37, mu_38, mu_39, mu_40, mu_41, mu_42, mu_43, mu_44, mu_45, mu_46, mu_47, mu_48, mO_len, mg_0, mg_1, mg_2, mg_3, mg_4, mg_5, mg_6, mg_7, mg_8, mg_9, mg_10, mg_11, mg_12, mg_13, mg_14, mg_15, mg_16, mg_17, mg_18, mg_19, mg_20, mg_21, mg_22, mg_23, mg_24, mg_25, mg_26, mg_27, mg_28, mg_29, mg_30, mg_31, mg_32, mg_33, mg_34, mg_35, ms_2, ms_8, ms_9, ms_10, ms_11, ms_12, ms_13, ms_14, ms_15, ms_16, ms_17, ms_18, ms_19, ms_22, ms_23, ms_32, ms_33, ms_34, ms_35, cN_0, vN_0, cN_1, vN_1, cN_2, vN_2, cN_3, vN_3, cN_4, vN_4, cN_5, vN_5, cN_6, vN_6, cN_7, vN_7, cN_8, vN_8, cN_9, vN_9, cN_190, vN_190, wpC, stpC, PC, PV, reduceCtorEq]
      try simp only [m1f]
      try simp (disch := omega) only [nmod, nI_leI, nI_ltI, nI_eq, nI_clamp, vin_nI, nI_1, fa_lit, nI_add, nI_rm3, nI_rm2, pk_rem, pk_mul, pk_sub, pk_div, nI_eM, nI_Me, nI_pM, nI_pMz, nI_pM0, M1_lt, M1_le, nI_ltM, nI_leM, i8_nI, true_and, and_true, false_implies, true_implies, not_false_eq_true, not_true_eq_false, ne_eq, implies_true, Nat.not_lt_zero, Nat.zero_le, ite_min, max0, Nat.reduceLT, Nat.reduceLeDiff, Nat.reduceEqDiff, Nat.reduceAdd, Nat.reduceMul, Nat.add_zero, Nat.zero_add, l1]
      try simp only [m1u]
      refine ⟨fun _ => Rr.i ?_ hs, fun q => absurd (Nat.le_refl _) q⟩
      rw [hv, List.drop_length]; rfl
    | succ j ih =>
      intro i pi fc u6 u7 hij hF hv
      have hil : i < ls.length := by omega
      have hei : ¬ ls.length ≤ i := by omega
      obtain ⟨ev, cd, hcd⟩ : ∃ ev cd, ls[i] = (ev, cd) := ⟨_, _, rfl⟩
      obtain ⟨⟨m1, m2, m3⟩, ⟨m4, m5, m6⟩, m7, m8⟩ := l7 i ev cd (by rw [List.getElem?_eq_getElem hil, hcd])
      rw [List.drop_eq_getElem_cons hil, hcd, lwV] at hv
      have L242 : ∀ pi u6 u7, cdT cd F = true → V G X 242 [.ref 31, .int (nI c), .int (nI fa), .int (nI ne), .int (nI ki), .int (nI i), u6, u7] [] n z (mM f0 I W A (hw, pi, fc, wy, qu)) := by
        intro pi u6 u7 hct
        rw [if_pos hct] at hv
        refine wpC_sound (PC_ok hG _) (by rw [hi]; exact ok_X9_lawful) (hd := [75, 87, 101, 171, 235, 268]) 400 _ _ _ _ _ _ ?_
        simp only [wp, stp, List.mem_cons, List.not_mem_nil, Nat.reduceEqDiff, or_false, or_self, false_or, or_true, true_or, Nat.reduceAdd, ↓reduceIte, List.getElem?_cons_zero, List.getElem?_cons_succ, nthV, List.set_cons_zero, List.set_cons_succ, noL, popA, catS, Value.category, List.length_cons, List.length_nil, Nat.reduceLT, Nat.reduceLeDiff, true_and, and_true, one0, zer1, imp_t, imp_f, ofN_nI, sdead, f20, f21, not_true_eq_false, upC_ap, upC_upC, retC, fitC, isRefT, Option.toList_some, Option.toList_none, List.cons_append, List.nil_append, Nat.lt_add_one, Nat.zero_lt_succ, Nat.le_refl, Nat.add_zero, Nat.zero_add, Nat.one_ne_zero, Nat.zero_ne_one, Nat.lt_irrefl, List.length_set, fa_X9_lawful, hi, hd, hQ, mr_X9_lawful, m1, m2, mM_31, mM_32, mM_33, mM_34, mM_35, mM_36, mM_37, mM_38, mM_39, mM_40, mM_41, mM_42, mM_43, mM_44, mM_45, mM_46, mM_47, mM_48, mu_31, mu_32, mu_33, mu_34, mu_35, mu_36, mu_37, mu_38, mu_39, mu_40, mu_41, mu_42, mu_43, mu_44, mu_45, mu_46, mu_47, mu_48, mO_len, mg_0, mg_1, mg_2, mg_3, mg_4, mg_5, mg_6, mg_7, mg_8, mg_9, mg_10, mg_11, mg_12, mg_13, mg_14, mg_15, mg_16, mg_17, mg_18, mg_19, mg_20, mg_21, mg_22, mg_23, mg_24, mg_25, mg_26, mg_27, mg_28, mg_29, mg_30, mg_31, mg_32, mg_33, mg_34, mg_35, ms_2, ms_8, ms_9, ms_10, ms_11, ms_12, ms_13, ms_14, ms_15, ms_16, ms_17, ms_18, ms_19, ms_22, ms_23, ms_32, ms_33, ms_34, ms_35, cN_0, vN_0, cN_1, vN_1, cN_2, vN_2, cN_3, vN_3, cN_4, vN_4, cN_5, vN_5, cN_6, vN_6, cN_7, vN_7, cN_8, vN_8, cN_9, vN_9, cN_190, vN_190, wpC, stpC, PC, PV, reduceCtorEq]
        try simp only [m1f]
        try simp (disch := omega) only [nmod, nI_leI, nI_ltI, nI_eq, nI_clamp, vin_nI, nI_1, fa_lit, nI_add, nI_rm3, nI_rm2, pk_rem, pk_mul, pk_sub, pk_div, nI_eM, nI_Me, nI_pM, nI_pMz, nI_pM0, M1_lt, M1_le, nI_ltM, nI_leM, i8_nI, true_and, and_true, false_implies, true_implies, not_false_eq_true, not_true_eq_false, ne_eq, implies_true, Nat.not_lt_zero, Nat.zero_le, ite_min, max0, Nat.reduceLT, Nat.reduceLeDiff, Nat.reduceEqDiff, Nat.reduceAdd, Nat.reduceMul, Nat.add_zero, Nat.zero_add, m1, m2]
        try simp only [m1u]
        refine ⟨by omega, by omega, by omega, _, t9_comesTo hG (by omega) ⟨m4, by omega⟩ (fun x a b => l6 x (by omega) (by omega)) hF (m7 F), ?_⟩
        rintro v n1 z1 f1 ⟨rfl, rfl, rfl, pi', rfl⟩
        refine wpC_sound (PC_ok hG _) (by rw [hi]; exact ok_X9_lawful) (hd := [75, 87, 101, 171, 235, 268]) 400 _ _ _ _ _ _ ?_
        simp only [wp, stp, List.mem_cons, List.not_mem_nil, Nat.reduceEqDiff, or_false, or_self, false_or, or_true, true_or, Nat.reduceAdd, ↓reduceIte, List.getElem?_cons_zero, List.getElem?_cons_succ, nthV, List.set_cons_zero, List.set_cons_succ, noL, popA, catS, Value.category, List.length_cons, List.length_nil, Nat.reduceLT, Nat.reduceLeDiff, true_and, and_true, one0, zer1, imp_t, imp_f, ofN_nI, sdead, f20, f21, not_true_eq_false, upC_ap, upC_upC, retC, fitC, isRefT, Option.toList_some, Option.toList_none, List.cons_append, List.nil_append, Nat.lt_add_one, Nat.zero_lt_succ, Nat.le_refl, Nat.add_zero, Nat.zero_add, Nat.one_ne_zero, Nat.zero_ne_one, Nat.lt_irrefl, List.length_set, fa_X9_lawful, hi, hd, hQ, mr_X9_lawful, mM_31, mM_32, mM_33, mM_34, mM_35, mM_36, mM_37, mM_38, mM_39, mM_40, mM_41, mM_42, mM_43, mM_44, mM_45, mM_46, mM_47, mM_48, mu_31, mu_32, mu_33, mu_34, mu_35, mu_36, mu_37, mu_38, mu_39, mu_40, mu_41, mu_42, mu_43, mu_44, mu_45, mu_46, mu_47, mu_48, mO_len, mg_0, mg_1, mg_2, mg_3, mg_4, mg_5, mg_6, mg_7, mg_8, mg_9, mg_10, mg_11, mg_12, mg_13, mg_14, mg_15, mg_16, mg_17, mg_18, mg_19, mg_20, mg_21, mg_22, mg_23, mg_24, mg_25, mg_26, mg_27, mg_28, mg_29, mg_30, mg_31, mg_32, mg_33, mg_34, mg_35, ms_2, ms_8, ms_9, ms_10, ms_11, ms_12, ms_13, ms_14, ms_15, ms_16, ms_17, ms_18, ms_19, ms_22, ms_23, ms_32, ms_33, ms_34, ms_35, cN_0, vN_0, cN_1, vN_1, cN_2, vN_2, cN_3, vN_3, cN_4, vN_4, cN_5, vN_5, cN_6, vN_6, cN_7, vN_7, cN_8, vN_8, cN_9, vN_9, cN_190, vN_190, wpC, stpC, PC, PV, reduceCtorEq]
        refine ⟨fun q => ⟨by omega, ?_⟩, fun q => ?_⟩
        · rw [hv]
          exact Rr.i (cm_nI _ (by rw [Int32.not_lt]; exact q)) hs
        · rw [hv]
          refine Rr.i ?_ hs
          unfold cmN
          rw [if_pos (Int32.not_le.mp q)]; rfl
      have next : ∀ pi u6 u7, ¬ cdT cd F = true → V G X 288 [.ref 31, .int (nI c), .int (nI fa), .int (nI ne), .int (nI ki), .int (nI i), u6, u7] [] n z (mM f0 I W A (hw, pi, fc, wy, qu)) := by
        intro pi u6 u7 hct
        rw [if_neg hct] at hv
        refine wpC_sound (PC_ok hG _) (by rw [hi]; exact ok_X9_lawful) (hd := [75, 87, 101, 171, 235, 268]) 400 _ _ _ _ _ _ ?_
        simp only [wp, stp, List.mem_cons, List.not_mem_nil, Nat.reduceEqDiff, or_false, or_self, false_or, or_true, true_or, Nat.reduceAdd, ↓reduceIte, List.getElem?_cons_zero, List.getElem?_cons_succ, nthV, List.set_cons_zero, List.set_cons_succ, noL, popA, catS, Value.category, List.length_cons, List.length_nil, Nat.reduceLT, Nat.reduceLeDiff, true_and, and_true, one0, zer1, imp_t, imp_f, ofN_nI, sdead, f20, f21, not_true_eq_false, upC_ap, upC_upC, retC, fitC, isRefT, Option.toList_some, Option.toList_none, List.cons_append, List.nil_append, Nat.lt_add_one, Nat.zero_lt_succ, Nat.le_refl, Nat.add_zero, Nat.zero_add, Nat.one_ne_zero, Nat.zero_ne_one, Nat.lt_irrefl, List.length_set, fa_X9_lawful, hi, hd, hQ, mr_X9_lawful, mM_31, mM_32, mM_33, mM_34, mM_35, mM_36, mM_37, mM_38, mM_39, mM_40, mM_41, mM_42, mM_43, mM_44, mM_45, mM_46, mM_47, mM_48, mu_31, mu_32, mu_33, mu_34, mu_35, mu_36, mu_37, mu_38, mu_39, mu_40, mu_41, mu_42, mu_43, mu_44, mu_45, mu_46, mu_47, mu_48, mO_len, mg_0, mg_1, mg_2, mg_3, mg_4, mg_5, mg_6, mg_7, mg_8, mg_9, mg_10, mg_11, mg_12, mg_13, mg_14, mg_15, mg_16, mg_17, mg_18, mg_19, mg_20, mg_21, mg_22, mg_23, mg_24, mg_25, mg_26, mg_27, mg_28, mg_29, mg_30, mg_31, mg_32, mg_33, mg_34, mg_35, ms_2, ms_8, ms_9, ms_10, ms_11, ms_12, ms_13, ms_14, ms_15, ms_16, ms_17, ms_18, ms_19, ms_22, ms_23, ms_32, ms_33, ms_34, ms_35, cN_0, vN_0, cN_1, vN_1, cN_2, vN_2, cN_3, vN_3, cN_4, vN_4, cN_5, vN_5, cN_6, vN_6, cN_7, vN_7, cN_8, vN_8, cN_9, vN_9, cN_190, vN_190, wpC, stpC, PC, PV, reduceCtorEq]
        try simp only [m1f]
        try simp (disch := omega) only [nmod, nI_leI, nI_ltI, nI_eq, nI_clamp, vin_nI, nI_1, fa_lit, nI_add, nI_rm3, nI_rm2, pk_rem, pk_mul, pk_sub, pk_div, nI_eM, nI_Me, nI_pM, nI_pMz, nI_pM0, M1_lt, M1_le, nI_ltM, nI_leM, i8_nI, true_and, and_true, false_implies, true_implies, not_false_eq_true, not_true_eq_false, ne_eq, implies_true, Nat.not_lt_zero, Nat.zero_le, ite_min, max0, Nat.reduceLT, Nat.reduceLeDiff, Nat.reduceEqDiff, Nat.reduceAdd, Nat.reduceMul, Nat.add_zero, Nat.zero_add]
        try simp only [m1u]
        exact ih _ _ _ _ _ (by omega) hF hv
      cases cd with
      | none =>
        have m8 : md i = tt i := m8
        refine wpC_sound (PC_ok hG _) (by rw [hi]; exact ok_X9_lawful) (hd := [75, 87, 101, 171, 235, 242, 268, 288]) 400 _ _ _ _ _ _ ?_
        simp only [wp, stp, List.mem_cons, List.not_mem_nil, Nat.reduceEqDiff, or_false, or_self, false_or, or_true, true_or, Nat.reduceAdd, ↓reduceIte, List.getElem?_cons_zero, List.getElem?_cons_succ, nthV, List.set_cons_zero, List.set_cons_succ, noL, popA, catS, Value.category, List.length_cons, List.length_nil, Nat.reduceLT, Nat.reduceLeDiff, true_and, and_true, one0, zer1, imp_t, imp_f, ofN_nI, sdead, f20, f21, not_true_eq_false, upC_ap, upC_upC, retC, fitC, isRefT, Option.toList_some, Option.toList_none, List.cons_append, List.nil_append, Nat.lt_add_one, Nat.zero_lt_succ, Nat.le_refl, Nat.add_zero, Nat.zero_add, Nat.one_ne_zero, Nat.zero_ne_one, Nat.lt_irrefl, List.length_set, fa_X9_lawful, hi, hd, hQ, mr_X9_lawful, l1, m2, m3, hei, m8, mM_31, mM_32, mM_33, mM_34, mM_35, mM_36, mM_37, mM_38, mM_39, mM_40, mM_41, mM_42, mM_43, mM_44, mM_45, mM_46, mM_47, mM_48, mu_31, mu_32, mu_33, mu_34, mu_35, mu_36, mu_37, mu_38, mu_39, mu_40, mu_41, mu_42, mu_43, mu_44, mu_45, mu_46, mu_47, mu_48, mO_len, mg_0, mg_1, mg_2, mg_3, mg_4, mg_5, mg_6, mg_7, mg_8, mg_9, mg_10, mg_11, mg_12, mg_13, mg_14, mg_15, mg_16, mg_17, mg_18, mg_19, mg_20, mg_21, mg_22, mg_23, mg_24, mg_25, mg_26, mg_27, mg_28, mg_29, mg_30, mg_31, mg_32, mg_33, mg_34, mg_35, ms_2, ms_8, ms_9, ms_10, ms_11, ms_12, ms_13, ms_14, ms_15, ms_16, ms_17, ms_18, ms_19, ms_22, ms_23, ms_32, ms_33, ms_34, ms_35, cN_0, vN_0, cN_1, vN_1, cN_2, vN_2, cN_3, vN_3, cN_4, vN_4, cN_5, vN_5, cN_6, vN_6, cN_7, vN_7, cN_8, vN_8, cN_9, vN_9, cN_190, vN_190, wpC, stpC, PC, PV, reduceCtorEq]
        try simp only [m1f]
        try simp (disch := omega) only [nmod, nI_leI, nI_ltI, nI_eq, nI_clamp, vin_nI, nI_1, fa_lit, nI_add, nI_rm3, nI_rm2, pk_rem, pk_mul, pk_sub, pk_div, nI_eM, nI_Me, nI_pM, nI_pMz, nI_pM0, M1_lt, M1_le, nI_ltM, nI_leM, i8_nI, true_and, and_true, false_implies, true_implies, not_false_eq_true, not_true_eq_false, ne_eq, implies_true, Nat.not_lt_zero, Nat.zero_le, ite_min, max0, Nat.reduceLT, Nat.reduceLeDiff, Nat.reduceEqDiff, Nat.reduceAdd, Nat.reduceMul, Nat.add_zero, Nat.zero_add, l1, m2, m3, hei, m8]
        try simp only [m1u]
        exact ⟨by omega, by omega, L242 _ _ _ rfl⟩
      | some b =>
        obtain ⟨m8, m9⟩ : md i < tt i ∧ ∀ F, rnR F ks vs (tt i - md i) (md i) [] = some [bI (b F = true)] := m8
        have hne : ¬ tt i = md i := by omega
        refine wpC_sound (PC_ok hG _) (by rw [hi]; exact ok_X9_lawful) (hd := [75, 87, 101, 171, 235, 242, 268, 288]) 400 _ _ _ _ _ _ ?_
        simp only [wp, stp, List.mem_cons, List.not_mem_nil, Nat.reduceEqDiff, or_false, or_self, false_or, or_true, true_or, Nat.reduceAdd, ↓reduceIte, List.getElem?_cons_zero, List.getElem?_cons_succ, nthV, List.set_cons_zero, List.set_cons_succ, noL, popA, catS, Value.category, List.length_cons, List.length_nil, Nat.reduceLT, Nat.reduceLeDiff, true_and, and_true, one0, zer1, imp_t, imp_f, ofN_nI, sdead, f20, f21, not_true_eq_false, upC_ap, upC_upC, retC, fitC, isRefT, Option.toList_some, Option.toList_none, List.cons_append, List.nil_append, Nat.lt_add_one, Nat.zero_lt_succ, Nat.le_refl, Nat.add_zero, Nat.zero_add, Nat.one_ne_zero, Nat.zero_ne_one, Nat.lt_irrefl, List.length_set, fa_X9_lawful, hi, hd, hQ, mr_X9_lawful, l1, m2, m3, hei, hne, mM_31, mM_32, mM_33, mM_34, mM_35, mM_36, mM_37, mM_38, mM_39, mM_40, mM_41, mM_42, mM_43, mM_44, mM_45, mM_46, mM_47, mM_48, mu_31, mu_32, mu_33, mu_34, mu_35, mu_36, mu_37, mu_38, mu_39, mu_40, mu_41, mu_42, mu_43, mu_44, mu_45, mu_46, mu_47, mu_48, mO_len, mg_0, mg_1, mg_2, mg_3, mg_4, mg_5, mg_6, mg_7, mg_8, mg_9, mg_10, mg_11, mg_12, mg_13, mg_14, mg_15, mg_16, mg_17, mg_18, mg_19, mg_20, mg_21, mg_22, mg_23, mg_24, mg_25, mg_26, mg_27, mg_28, mg_29, mg_30, mg_31, mg_32, mg_33, mg_34, mg_35, ms_2, ms_8, ms_9, ms_10, ms_11, ms_12, ms_13, ms_14, ms_15, ms_16, ms_17, ms_18, ms_19, ms_22, ms_23, ms_32, ms_33, ms_34, ms_35, cN_0, vN_0, cN_1, vN_1, cN_2, vN_2, cN_3, vN_3, cN_4, vN_4, cN_5, vN_5, cN_6, vN_6, cN_7, vN_7, cN_8, vN_8, cN_9, vN_9, cN_190, vN_190, wpC, stpC, PC, PV, reduceCtorEq]
        try simp only [m1f]
        try simp (disch := omega) only [nmod, nI_leI, nI_ltI, nI_eq, nI_clamp, vin_nI, nI_1, fa_lit, nI_add, nI_rm3, nI_rm2, pk_rem, pk_mul, pk_sub, pk_div, nI_eM, nI_Me, nI_pM, nI_pMz, nI_pM0, M1_lt, M1_le, nI_ltM, nI_leM, i8_nI, true_and, and_true, false_implies, true_implies, not_false_eq_true, not_true_eq_false, ne_eq, implies_true, Nat.not_lt_zero, Nat.zero_le, ite_min, max0, Nat.reduceLT, Nat.reduceLeDiff, Nat.reduceEqDiff, Nat.reduceAdd, Nat.reduceMul, Nat.add_zero, Nat.zero_add, l1, m2, m3, hei, hne]
        try simp only [m1u]
        refine ⟨by omega, by omega, by omega, by omega, by omega, _, t9_comesTo hG (by omega) ⟨m5, by omega⟩ (fun x a b => l6 x (by omega) (by omega)) hF (m9 F), ?_⟩
        rintro v n1 z1 f1 ⟨rfl, rfl, rfl, pi', rfl⟩
        by_cases hb : b F = true
        · rw [bI_t hb]
          refine wpC_sound (PC_ok hG _) (by rw [hi]; exact ok_X9_lawful) (hd := [75, 87, 101, 171, 235, 242, 268, 288]) 400 _ _ _ _ _ _ ?_
          simp only [wp, stp, List.mem_cons, List.not_mem_nil, Nat.reduceEqDiff, or_false, or_self, false_or, or_true, true_or, Nat.reduceAdd, ↓reduceIte, List.getElem?_cons_zero, List.getElem?_cons_succ, nthV, List.set_cons_zero, List.set_cons_succ, noL, popA, catS, Value.category, List.length_cons, List.length_nil, Nat.reduceLT, Nat.reduceLeDiff, true_and, and_true, one0, zer1, imp_t, imp_f, ofN_nI, sdead, f20, f21, not_true_eq_false, upC_ap, upC_upC, retC, fitC, isRefT, Option.toList_some, Option.toList_none, List.cons_append, List.nil_append, Nat.lt_add_one, Nat.zero_lt_succ, Nat.le_refl, Nat.add_zero, Nat.zero_add, Nat.one_ne_zero, Nat.zero_ne_one, Nat.lt_irrefl, List.length_set, fa_X9_lawful, hi, hd, hQ, mr_X9_lawful, mM_31, mM_32, mM_33, mM_34, mM_35, mM_36, mM_37, mM_38, mM_39, mM_40, mM_41, mM_42, mM_43, mM_44, mM_45, mM_46, mM_47, mM_48, mu_31, mu_32, mu_33, mu_34, mu_35, mu_36, mu_37, mu_38, mu_39, mu_40, mu_41, mu_42, mu_43, mu_44, mu_45, mu_46, mu_47, mu_48, mO_len, mg_0, mg_1, mg_2, mg_3, mg_4, mg_5, mg_6, mg_7, mg_8, mg_9, mg_10, mg_11, mg_12, mg_13, mg_14, mg_15, mg_16, mg_17, mg_18, mg_19, mg_20, mg_21, mg_22, mg_23, mg_24, mg_25, mg_26, mg_27, mg_28, mg_29, mg_30, mg_31, mg_32, mg_33, mg_34, mg_35, ms_2, ms_8, ms_9, ms_10, ms_11, ms_12, ms_13, ms_14, ms_15, ms_16, ms_17, ms_18, ms_19, ms_22, ms_23, ms_32, ms_33, ms_34, ms_35, cN_0, vN_0, cN_1, vN_1, cN_2, vN_2, cN_3, vN_3, cN_4, vN_4, cN_5, vN_5, cN_6, vN_6, cN_7, vN_7, cN_8, vN_8, cN_9, vN_9, cN_190, vN_190, wpC, stpC, PC, PV, reduceCtorEq]
          try simp only [m1f]
          try simp (disch := omega) only [nmod, nI_leI, nI_ltI, nI_eq, nI_clamp, vin_nI, nI_1, fa_lit, nI_add, nI_rm3, nI_rm2, pk_rem, pk_mul, pk_sub, pk_div, nI_eM, nI_Me, nI_pM, nI_pMz, nI_pM0, M1_lt, M1_le, nI_ltM, nI_leM, i8_nI, true_and, and_true, false_implies, true_implies, not_false_eq_true, not_true_eq_false, ne_eq, implies_true, Nat.not_lt_zero, Nat.zero_le, ite_min, max0, Nat.reduceLT, Nat.reduceLeDiff, Nat.reduceEqDiff, Nat.reduceAdd, Nat.reduceMul, Nat.add_zero, Nat.zero_add]
          try simp only [m1u]
          exact L242 _ _ _ hb
        · rw [bI_f hb]
          refine wpC_sound (PC_ok hG _) (by rw [hi]; exact ok_X9_lawful) (hd := [75, 87, 101, 171, 235, 242, 268, 288]) 400 _ _ _ _ _ _ ?_
          simp only [wp, stp, List.mem_cons, List.not_mem_nil, Nat.reduceEqDiff, or_false, or_self, false_or, or_true, true_or, Nat.reduceAdd, ↓reduceIte, List.getElem?_cons_zero, List.getElem?_cons_succ, nthV, List.set_cons_zero, List.set_cons_succ, noL, popA, catS, Value.category, List.length_cons, List.length_nil, Nat.reduceLT, Nat.reduceLeDiff, true_and, and_true, one0, zer1, imp_t, imp_f, ofN_nI, sdead, f20, f21, not_true_eq_false, upC_ap, upC_upC, retC, fitC, isRefT, Option.toList_some, Option.toList_none, List.cons_append, List.nil_append, Nat.lt_add_one, Nat.zero_lt_succ, Nat.le_refl, Nat.add_zero, Nat.zero_add, Nat.one_ne_zero, Nat.zero_ne_one, Nat.lt_irrefl, List.length_set, fa_X9_lawful, hi, hd, hQ, mr_X9_lawful, mM_31, mM_32, mM_33, mM_34, mM_35, mM_36, mM_37, mM_38, mM_39, mM_40, mM_41, mM_42, mM_43, mM_44, mM_45, mM_46, mM_47, mM_48, mu_31, mu_32, mu_33, mu_34, mu_35, mu_36, mu_37, mu_38, mu_39, mu_40, mu_41, mu_42, mu_43, mu_44, mu_45, mu_46, mu_47, mu_48, mO_len, mg_0, mg_1, mg_2, mg_3, mg_4, mg_5, mg_6, mg_7, mg_8, mg_9, mg_10, mg_11, mg_12, mg_13, mg_14, mg_15, mg_16, mg_17, mg_18, mg_19, mg_20, mg_21, mg_22, mg_23, mg_24, mg_25, mg_26, mg_27, mg_28, mg_29, mg_30, mg_31, mg_32, mg_33, mg_34, mg_35, ms_2, ms_8, ms_9, ms_10, ms_11, ms_12, ms_13, ms_14, ms_15, ms_16, ms_17, ms_18, ms_19, ms_22, ms_23, ms_32, ms_33, ms_34, ms_35, cN_0, vN_0, cN_1, vN_1, cN_2, vN_2, cN_3, vN_3, cN_4, vN_4, cN_5, vN_5, cN_6, vN_6, cN_7, vN_7, cN_8, vN_8, cN_9, vN_9, cN_190, vN_190, wpC, stpC, PC, PV, reduceCtorEq]
          try simp only [m1f]
          try simp (disch := omega) only [nmod, nI_leI, nI_ltI, nI_eq, nI_clamp, vin_nI, nI_1, fa_lit, nI_add, nI_rm3, nI_rm2, pk_rem, pk_mul, pk_sub, pk_div, nI_eM, nI_Me, nI_pM, nI_pMz, nI_pM0, M1_lt, M1_le, nI_ltM, nI_leM, i8_nI, true_and, and_true, false_implies, true_implies, not_false_eq_true, not_true_eq_false, ne_eq, implies_true, Nat.not_lt_zero, Nat.zero_le, ite_min, max0, Nat.reduceLT, Nat.reduceLeDiff, Nat.reduceEqDiff, Nat.reduceAdd, Nat.reduceMul, Nat.add_zero, Nat.zero_add]
          try simp only [m1u]
          exact next _ _ _ hb
  have loop : ∀ j k fc u6 u7, k + j = 4 → (fc 1 = nI fa ∧ fc 4 = nI ne ∧ fc 5 = nI ki ∧ fc 6 = nI (c % 10) ∧ fc 7 = nI (c / 10) ∧ fc 8 = S 0 8) → fc 2 = nI (smF (edR S c) k) → fc 3 = nI (smF (wtR S c) k) → V G X 75 [.ref 31, .int (nI c), .int (nI fa), .int (nI ne), .int (nI ki), .int (nI k), u6, u7] [] n z (mM f0 I W A (hw, pi, fc, wy, qu)) := by
    intro j
    induction j with
    | zero =>
      intro k fc u6 u7 hkj hf h2 h3
      have : k = 4 := by omega
      subst this
      refine wpC_sound (PC_ok hG _) (by rw [hi]; exact ok_X9_lawful) (hd := [75, 87, 101, 171, 235, 268]) 400 _ _ _ _ _ _ ?_
      simp only [wp, stp, List.mem_cons, List.not_mem_nil, Nat.reduceEqDiff, or_false, or_self, false_or, or_true, true_or, Nat.reduceAdd, ↓reduceIte, List.getElem?_cons_zero, List.getElem?_cons_succ, nthV, List.set_cons_zero, List.set_cons_succ, noL, popA, catS, Value.category, List.length_cons, List.length_nil, Nat.reduceLT, Nat.reduceLeDiff, true_and, and_true, one0, zer1, imp_t, imp_f, ofN_nI, sdead, f20, f21, not_true_eq_false, upC_ap, upC_upC, retC, fitC, isRefT, Option.toList_some, Option.toList_none, List.cons_append, List.nil_append, Nat.lt_add_one, Nat.zero_lt_succ, Nat.le_refl, Nat.add_zero, Nat.zero_add, Nat.one_ne_zero, Nat.zero_ne_one, Nat.lt_irrefl, List.length_set, fa_X9_lawful, hi, hd, hQ, mr_X9_lawful, mM_31, mM_32, mM_33, mM_34, mM_35, mM_36, mM_37, mM_38, mM_39, mM_40, mM_41, mM_42, mM_43, mM_44, mM_45, mM_46, mM_47, mM_48, mu_31, mu_32, mu_33, mu_34, mu_35, mu_36, mu_37, mu_38, mu_39, mu_40, mu_41, mu_42, mu_43, mu_44, mu_45, mu_46, mu_47, mu_48, mO_len, mg_0, mg_1, mg_2, mg_3, mg_4, mg_5, mg_6, mg_7, mg_8, mg_9, mg_10, mg_11, mg_12, mg_13, mg_14, mg_15, mg_16, mg_17, mg_18, mg_19, mg_20, mg_21, mg_22, mg_23, mg_24, mg_25, mg_26, mg_27, mg_28, mg_29, mg_30, mg_31, mg_32, mg_33, mg_34, mg_35, ms_2, ms_8, ms_9, ms_10, ms_11, ms_12, ms_13, ms_14, ms_15, ms_16, ms_17, ms_18, ms_19, ms_22, ms_23, ms_32, ms_33, ms_34, ms_35, cN_0, vN_0, cN_1, vN_1, cN_2, vN_2, cN_3, vN_3, cN_4, vN_4, cN_5, vN_5, cN_6, vN_6, cN_7, vN_7, cN_8, vN_8, cN_9, vN_9, cN_190, vN_190, wpC, stpC, PC, PV, reduceCtorEq]
      try simp only [m1f]
      try simp (disch := omega) only [nmod, nI_leI, nI_ltI, nI_eq, nI_clamp, vin_nI, nI_1, fa_lit, nI_add, nI_rm3, nI_rm2, pk_rem, pk_mul, pk_sub, pk_div, nI_eM, nI_Me, nI_pM, nI_pMz, nI_pM0, M1_lt, M1_le, nI_ltM, nI_leM, i8_nI, true_and, and_true, false_implies, true_implies, not_false_eq_true, not_true_eq_false, ne_eq, implies_true, Nat.not_lt_zero, Nat.zero_le, ite_min, max0, Nat.reduceLT, Nat.reduceLeDiff, Nat.reduceEqDiff, Nat.reduceAdd, Nat.reduceMul, Nat.add_zero, Nat.zero_add]
      try simp only [m1u]
      refine lop2 ls.length 0 _ _ _ _ (by omega) (fun j hj => ?_) rfl
      obtain ⟨f1, f4, f5, f6, f7, f8⟩ := hf
      obtain ⟨ed, wt⟩ := ed_sum hc hwh
      rw [ed] at h2
      rw [wt] at h3
      rw [hFd]
      rcases (by omega : j = 0 ∨ j = 1 ∨ j = 2 ∨ j = 3 ∨ j = 4 ∨ j = 5 ∨ j = 6 ∨ j = 7) with r | r | r | r | r | r | r | r <;> subst r
      · exact f1
      · exact h2
      · exact h3
      · exact f4
      · exact f5
      · exact f6
      · exact f7
      · exact f8
    | succ j ih =>
      intro k fc u6 u7 hkj hf h2 h3
      have e2 := smF_le (fun o => (edR_le (S := S) c o).1) k
      have e3 := smF_le (fun o => (edR_le (S := S) c o).2) k
      have nxt : ∀ u6 u7 x y, x = edR S c k → y = wtR S c k → V G X 75 [.ref 31, .int (nI c), .int (nI fa), .int (nI ne), .int (nI ki), .int (nI (k + 1)), u6, u7] [] n z (mM f0 I W A (hw, pi, upd (upd fc 2 (nI (smF (edR S c) k + x))) 3 (nI (smF (wtR S c) k + y)), wy, qu)) := by
        intro u6 u7 x y hx hy
        subst hx hy
        obtain ⟨f1, f4, f5, f6, f7, f8⟩ := hf
        exact ih _ _ _ _ (by omega) ⟨by simp only [upd_ap]; exact f1, by simp only [upd_ap]; exact f4, by simp only [upd_ap]; exact f5, by simp only [upd_ap]; exact f6, by simp only [upd_ap]; exact f7, by simp only [upd_ap]; exact f8⟩ (by rw [upd_ap, upd_ap]; rfl) (by rw [upd_ap]; rfl)
      have e33 : ∀ x, upd fc 2 x 3 = nI (smF (wtR S c) k) := fun x => by rw [upd_ap, if_neg (by decide)]; exact h3
      refine wpC_sound (PC_ok hG _) (by rw [hi]; exact ok_X9_lawful) (hd := [75, 87, 101, 171, 235, 268]) 400 _ _ _ _ _ _ ?_
      simp only [wp, stp, List.mem_cons, List.not_mem_nil, Nat.reduceEqDiff, or_false, or_self, false_or, or_true, true_or, Nat.reduceAdd, ↓reduceIte, List.getElem?_cons_zero, List.getElem?_cons_succ, nthV, List.set_cons_zero, List.set_cons_succ, noL, popA, catS, Value.category, List.length_cons, List.length_nil, Nat.reduceLT, Nat.reduceLeDiff, true_and, and_true, one0, zer1, imp_t, imp_f, ofN_nI, sdead, f20, f21, not_true_eq_false, upC_ap, upC_upC, retC, fitC, isRefT, Option.toList_some, Option.toList_none, List.cons_append, List.nil_append, Nat.lt_add_one, Nat.zero_lt_succ, Nat.le_refl, Nat.add_zero, Nat.zero_add, Nat.one_ne_zero, Nat.zero_ne_one, Nat.lt_irrefl, List.length_set, fa_X9_lawful, hi, hd, hQ, mr_X9_lawful, mM_31, mM_32, mM_33, mM_34, mM_35, mM_36, mM_37, mM_38, mM_39, mM_40, mM_41, mM_42, mM_43, mM_44, mM_45, mM_46, mM_47, mM_48, mu_31, mu_32, mu_33, mu_34, mu_35, mu_36, mu_37, mu_38, mu_39, mu_40, mu_41, mu_42, mu_43, mu_44, mu_45, mu_46, mu_47, mu_48, mO_len, mg_0, mg_1, mg_2, mg_3, mg_4, mg_5, mg_6, mg_7, mg_8, mg_9, mg_10, mg_11, mg_12, mg_13, mg_14, mg_15, mg_16, mg_17, mg_18, mg_19, mg_20, mg_21, mg_22, mg_23, mg_24, mg_25, mg_26, mg_27, mg_28, mg_29, mg_30, mg_31, mg_32, mg_33, mg_34, mg_35, ms_2, ms_8, ms_9, ms_10, ms_11, ms_12, ms_13, ms_14, ms_15, ms_16, ms_17, ms_18, ms_19, ms_22, ms_23, ms_32, ms_33, ms_34, ms_35, cN_0, vN_0, cN_1, vN_1, cN_2, vN_2, cN_3, vN_3, cN_4, vN_4, cN_5, vN_5, cN_6, vN_6, cN_7, vN_7, cN_8, vN_8, cN_9, vN_9, cN_190, vN_190, wpC, stpC, PC, PV, reduceCtorEq]
      try simp only [m1f]
      try simp (disch := omega) only [nmod, nI_leI, nI_ltI, nI_eq, nI_clamp, vin_nI, nI_1, fa_lit, nI_add, nI_rm3, nI_rm2, pk_rem, pk_mul, pk_sub, pk_div, nI_eM, nI_Me, nI_pM, nI_pMz, nI_pM0, M1_lt, M1_le, nI_ltM, nI_leM, i8_nI, true_and, and_true, false_implies, true_implies, not_false_eq_true, not_true_eq_false, ne_eq, implies_true, Nat.not_lt_zero, Nat.zero_le, ite_min, max0, Nat.reduceLT, Nat.reduceLeDiff, Nat.reduceEqDiff, Nat.reduceAdd, Nat.reduceMul, Nat.add_zero, Nat.zero_add]
      try simp only [m1u]
      refine ⟨fun q => absurd q (by omega), fun _ => ⟨by omega, _, t9_beside hG (by omega) hc.1 (by omega), ?_⟩⟩
      rintro v n1 z1 f1 ⟨rfl, rfl, rfl, rfl⟩
      cases er : rvs c k with
      | none =>
        have eb : nbO S c k = none := by unfold nbO; rw [er]
        refine wpC_sound (PC_ok hG _) (by rw [hi]; exact ok_X9_lawful) (hd := [75, 87, 101, 171, 235, 268]) 400 _ _ _ _ _ _ ?_
        simp only [wp, stp, List.mem_cons, List.not_mem_nil, Nat.reduceEqDiff, or_false, or_self, false_or, or_true, true_or, Nat.reduceAdd, ↓reduceIte, List.getElem?_cons_zero, List.getElem?_cons_succ, nthV, List.set_cons_zero, List.set_cons_succ, noL, popA, catS, Value.category, List.length_cons, List.length_nil, Nat.reduceLT, Nat.reduceLeDiff, true_and, and_true, one0, zer1, imp_t, imp_f, ofN_nI, sdead, f20, f21, not_true_eq_false, upC_ap, upC_upC, retC, fitC, isRefT, Option.toList_some, Option.toList_none, List.cons_append, List.nil_append, Nat.lt_add_one, Nat.zero_lt_succ, Nat.le_refl, Nat.add_zero, Nat.zero_add, Nat.one_ne_zero, Nat.zero_ne_one, Nat.lt_irrefl, List.length_set, fa_X9_lawful, hi, hd, hQ, mr_X9_lawful, eO_n, h2, h3, mM_31, mM_32, mM_33, mM_34, mM_35, mM_36, mM_37, mM_38, mM_39, mM_40, mM_41, mM_42, mM_43, mM_44, mM_45, mM_46, mM_47, mM_48, mu_31, mu_32, mu_33, mu_34, mu_35, mu_36, mu_37, mu_38, mu_39, mu_40, mu_41, mu_42, mu_43, mu_44, mu_45, mu_46, mu_47, mu_48, mO_len, mg_0, mg_1, mg_2, mg_3, mg_4, mg_5, mg_6, mg_7, mg_8, mg_9, mg_10, mg_11, mg_12, mg_13, mg_14, mg_15, mg_16, mg_17, mg_18, mg_19, mg_20, mg_21, mg_22, mg_23, mg_24, mg_25, mg_26, mg_27, mg_28, mg_29, mg_30, mg_31, mg_32, mg_33, mg_34, mg_35, ms_2, ms_8, ms_9, ms_10, ms_11, ms_12, ms_13, ms_14, ms_15, ms_16, ms_17, ms_18, ms_19, ms_22, ms_23, ms_32, ms_33, ms_34, ms_35, cN_0, vN_0, cN_1, vN_1, cN_2, vN_2, cN_3, vN_3, cN_4, vN_4, cN_5, vN_5, cN_6, vN_6, cN_7, vN_7, cN_8, vN_8, cN_9, vN_9, cN_190, vN_190, wpC, stpC, PC, PV, reduceCtorEq]
        try simp only [m1f]
        try simp (disch := omega) only [nmod, nI_leI, nI_ltI, nI_eq, nI_clamp, vin_nI, nI_1, fa_lit, nI_add, nI_rm3, nI_rm2, pk_rem, pk_mul, pk_sub, pk_div, nI_eM, nI_Me, nI_pM, nI_pMz, nI_pM0, M1_lt, M1_le, nI_ltM, nI_leM, i8_nI, true_and, and_true, false_implies, true_implies, not_false_eq_true, not_true_eq_false, ne_eq, implies_true, Nat.not_lt_zero, Nat.zero_le, ite_min, max0, Nat.reduceLT, Nat.reduceLeDiff, Nat.reduceEqDiff, Nat.reduceAdd, Nat.reduceMul, Nat.add_zero, Nat.zero_add, eO_n, h2, h3]
        try simp only [m1u]
        rw [e33, nI_add]
        exact nxt _ _ 1 0 (by unfold edR; rw [eb]) (by unfold wtR; rw [eb])
      | some v =>
        obtain ⟨hv, hav⟩ := rvs_in hc.1 er
        refine wpC_sound (PC_ok hG _) (by rw [hi]; exact ok_X9_lawful) (hd := [75, 87, 101, 171, 235, 268]) 400 _ _ _ _ _ _ ?_
        simp only [wp, stp, List.mem_cons, List.not_mem_nil, Nat.reduceEqDiff, or_false, or_self, false_or, or_true, true_or, Nat.reduceAdd, ↓reduceIte, List.getElem?_cons_zero, List.getElem?_cons_succ, nthV, List.set_cons_zero, List.set_cons_succ, noL, popA, catS, Value.category, List.length_cons, List.length_nil, Nat.reduceLT, Nat.reduceLeDiff, true_and, and_true, one0, zer1, imp_t, imp_f, ofN_nI, sdead, f20, f21, not_true_eq_false, upC_ap, upC_upC, retC, fitC, isRefT, Option.toList_some, Option.toList_none, List.cons_append, List.nil_append, Nat.lt_add_one, Nat.zero_lt_succ, Nat.le_refl, Nat.add_zero, Nat.zero_add, Nat.one_ne_zero, Nat.zero_ne_one, Nat.lt_irrefl, List.length_set, fa_X9_lawful, hi, hd, hQ, mr_X9_lawful, eO_s, mM_31, mM_32, mM_33, mM_34, mM_35, mM_36, mM_37, mM_38, mM_39, mM_40, mM_41, mM_42, mM_43, mM_44, mM_45, mM_46, mM_47, mM_48, mu_31, mu_32, mu_33, mu_34, mu_35, mu_36, mu_37, mu_38, mu_39, mu_40, mu_41, mu_42, mu_43, mu_44, mu_45, mu_46, mu_47, mu_48, mO_len, mg_0, mg_1, mg_2, mg_3, mg_4, mg_5, mg_6, mg_7, mg_8, mg_9, mg_10, mg_11, mg_12, mg_13, mg_14, mg_15, mg_16, mg_17, mg_18, mg_19, mg_20, mg_21, mg_22, mg_23, mg_24, mg_25, mg_26, mg_27, mg_28, mg_29, mg_30, mg_31, mg_32, mg_33, mg_34, mg_35, ms_2, ms_8, ms_9, ms_10, ms_11, ms_12, ms_13, ms_14, ms_15, ms_16, ms_17, ms_18, ms_19, ms_22, ms_23, ms_32, ms_33, ms_34, ms_35, cN_0, vN_0, cN_1, vN_1, cN_2, vN_2, cN_3, vN_3, cN_4, vN_4, cN_5, vN_5, cN_6, vN_6, cN_7, vN_7, cN_8, vN_8, cN_9, vN_9, cN_190, vN_190, wpC, stpC, PC, PV, reduceCtorEq]
        try simp only [m1f]
        try simp (disch := omega) only [nmod, nI_leI, nI_ltI, nI_eq, nI_clamp, vin_nI, nI_1, fa_lit, nI_add, nI_rm3, nI_rm2, pk_rem, pk_mul, pk_sub, pk_div, nI_eM, nI_Me, nI_pM, nI_pMz, nI_pM0, M1_lt, M1_le, nI_ltM, nI_leM, i8_nI, true_and, and_true, false_implies, true_implies, not_false_eq_true, not_true_eq_false, ne_eq, implies_true, Nat.not_lt_zero, Nat.zero_le, ite_min, max0, Nat.reduceLT, Nat.reduceLeDiff, Nat.reduceEqDiff, Nat.reduceAdd, Nat.reduceMul, Nat.add_zero, Nat.zero_add, eO_s]
        try simp only [m1u]
        refine ⟨by omega, _, t9_isYard hG (by omega) hB h (nI v), ?_⟩
        rintro w n1 z1 f1 ⟨rfl, rfl, rfl, rfl⟩
        by_cases q : v % 10 < wdt S ∧ v / 10 < hgt S
        · have eb : nbO S c k = some v := by unfold nbO; rw [er]; exact if_pos q
          rw [bI_t ((in_N hB hv).mpr q)]
          have e20 := h.1.2 v hv
          refine wpC_sound (PC_ok hG _) (by rw [hi]; exact ok_X9_lawful) (hd := [75, 87, 101, 171, 235, 268]) 400 _ _ _ _ _ _ ?_
          simp only [wp, stp, List.mem_cons, List.not_mem_nil, Nat.reduceEqDiff, or_false, or_self, false_or, or_true, true_or, Nat.reduceAdd, ↓reduceIte, List.getElem?_cons_zero, List.getElem?_cons_succ, nthV, List.set_cons_zero, List.set_cons_succ, noL, popA, catS, Value.category, List.length_cons, List.length_nil, Nat.reduceLT, Nat.reduceLeDiff, true_and, and_true, one0, zer1, imp_t, imp_f, ofN_nI, sdead, f20, f21, not_true_eq_false, upC_ap, upC_upC, retC, fitC, isRefT, Option.toList_some, Option.toList_none, List.cons_append, List.nil_append, Nat.lt_add_one, Nat.zero_lt_succ, Nat.le_refl, Nat.add_zero, Nat.zero_add, Nat.one_ne_zero, Nat.zero_ne_one, Nat.lt_irrefl, List.length_set, fa_X9_lawful, hi, hd, hQ, mr_X9_lawful, h2, h3, e20, mM_31, mM_32, mM_33, mM_34, mM_35, mM_36, mM_37, mM_38, mM_39, mM_40, mM_41, mM_42, mM_43, mM_44, mM_45, mM_46, mM_47, mM_48, mu_31, mu_32, mu_33, mu_34, mu_35, mu_36, mu_37, mu_38, mu_39, mu_40, mu_41, mu_42, mu_43, mu_44, mu_45, mu_46, mu_47, mu_48, mO_len, mg_0, mg_1, mg_2, mg_3, mg_4, mg_5, mg_6, mg_7, mg_8, mg_9, mg_10, mg_11, mg_12, mg_13, mg_14, mg_15, mg_16, mg_17, mg_18, mg_19, mg_20, mg_21, mg_22, mg_23, mg_24, mg_25, mg_26, mg_27, mg_28, mg_29, mg_30, mg_31, mg_32, mg_33, mg_34, mg_35, ms_2, ms_8, ms_9, ms_10, ms_11, ms_12, ms_13, ms_14, ms_15, ms_16, ms_17, ms_18, ms_19, ms_22, ms_23, ms_32, ms_33, ms_34, ms_35, cN_0, vN_0, cN_1, vN_1, cN_2, vN_2, cN_3, vN_3, cN_4, vN_4, cN_5, vN_5, cN_6, vN_6, cN_7, vN_7, cN_8, vN_8, cN_9, vN_9, cN_190, vN_190, wpC, stpC, PC, PV, reduceCtorEq]
          try simp only [m1f]
          try simp (disch := omega) only [nmod, nI_leI, nI_ltI, nI_eq, nI_clamp, vin_nI, nI_1, fa_lit, nI_add, nI_rm3, nI_rm2, pk_rem, pk_mul, pk_sub, pk_div, nI_eM, nI_Me, nI_pM, nI_pMz, nI_pM0, M1_lt, M1_le, nI_ltM, nI_leM, i8_nI, true_and, and_true, false_implies, true_implies, not_false_eq_true, not_true_eq_false, ne_eq, implies_true, Nat.not_lt_zero, Nat.zero_le, ite_min, max0, Nat.reduceLT, Nat.reduceLeDiff, Nat.reduceEqDiff, Nat.reduceAdd, Nat.reduceMul, Nat.add_zero, Nat.zero_add, h2, h3, e20]
          try simp only [m1u]
          rw [e33, nI_add, nI_add]
          exact ⟨by omega, fun r => nxt _ _ 0 0 (by unfold edR; rw [eb]) (by unfold wtR; rw [eb]; exact (if_pos (kB_0.mp r)).symm), fun r => nxt _ _ 0 1 (by unfold edR; rw [eb]) (by unfold wtR; rw [eb]; exact (if_neg (fun q => r (kB_0.mpr q))).symm)⟩
        · have eb : nbO S c k = none := by unfold nbO; rw [er]; exact if_neg q
          rw [bI_f (fun r => q ((in_N hB hv).mp r))]
          refine wpC_sound (PC_ok hG _) (by rw [hi]; exact ok_X9_lawful) (hd := [75, 87, 101, 171, 235, 268]) 400 _ _ _ _ _ _ ?_
          simp only [wp, stp, List.mem_cons, List.not_mem_nil, Nat.reduceEqDiff, or_false, or_self, false_or, or_true, true_or, Nat.reduceAdd, ↓reduceIte, List.getElem?_cons_zero, List.getElem?_cons_succ, nthV, List.set_cons_zero, List.set_cons_succ, noL, popA, catS, Value.category, List.length_cons, List.length_nil, Nat.reduceLT, Nat.reduceLeDiff, true_and, and_true, one0, zer1, imp_t, imp_f, ofN_nI, sdead, f20, f21, not_true_eq_false, upC_ap, upC_upC, retC, fitC, isRefT, Option.toList_some, Option.toList_none, List.cons_append, List.nil_append, Nat.lt_add_one, Nat.zero_lt_succ, Nat.le_refl, Nat.add_zero, Nat.zero_add, Nat.one_ne_zero, Nat.zero_ne_one, Nat.lt_irrefl, List.length_set, fa_X9_lawful, hi, hd, hQ, mr_X9_lawful, h2, h3, mM_31, mM_32, mM_33, mM_34, mM_35, mM_36, mM_37, mM_38, mM_39, mM_40, mM_41, mM_42, mM_43, mM_44, mM_45, mM_46, mM_47, mM_48, mu_31, mu_32, mu_33, mu_34, mu_35, mu_36, mu_37, mu_38, mu_39, mu_40, mu_41, mu_42, mu_43, mu_44, mu_45, mu_46, mu_47, mu_48, mO_len, mg_0, mg_1, mg_2, mg_3, mg_4, mg_5, mg_6, mg_7, mg_8, mg_9, mg_10, mg_11, mg_12, mg_13, mg_14, mg_15, mg_16, mg_17, mg_18, mg_19, mg_20, mg_21, mg_22, mg_23, mg_24, mg_25, mg_26, mg_27, mg_28, mg_29, mg_30, mg_31, mg_32, mg_33, mg_34, mg_35, ms_2, ms_8, ms_9, ms_10, ms_11, ms_12, ms_13, ms_14, ms_15, ms_16, ms_17, ms_18, ms_19, ms_22, ms_23, ms_32, ms_33, ms_34, ms_35, cN_0, vN_0, cN_1, vN_1, cN_2, vN_2, cN_3, vN_3, cN_4, vN_4, cN_5, vN_5, cN_6, vN_6, cN_7, vN_7, cN_8, vN_8, cN_9, vN_9, cN_190, vN_190, wpC, stpC, PC, PV, reduceCtorEq]
          try simp only [m1f]
          try simp (disch := omega) only [nmod, nI_leI, nI_ltI, nI_eq, nI_clamp, vin_nI, nI_1, fa_lit, nI_add, nI_rm3, nI_rm2, pk_rem, pk_mul, pk_sub, pk_div, nI_eM, nI_Me, nI_pM, nI_pMz, nI_pM0, M1_lt, M1_le, nI_ltM, nI_leM, i8_nI, true_and, and_true, false_implies, true_implies, not_false_eq_true, not_true_eq_false, ne_eq, implies_true, Nat.not_lt_zero, Nat.zero_le, ite_min, max0, Nat.reduceLT, Nat.reduceLeDiff, Nat.reduceEqDiff, Nat.reduceAdd, Nat.reduceMul, Nat.add_zero, Nat.zero_add, h2, h3]
          try simp only [m1u]
          rw [e33, nI_add]
          exact nxt _ _ 1 0 (by unfold edR; rw [eb]) (by unfold wtR; rw [eb])
  refine wpC_sound (PC_ok hG _) (by rw [hi]; exact ok_X9_lawful) (hd := [75, 87, 101, 171, 235, 268]) 400 _ _ _ _ _ _ ?_
  simp only [wp, stp, List.mem_cons, List.not_mem_nil, Nat.reduceEqDiff, or_false, or_self, false_or, or_true, true_or, Nat.reduceAdd, ↓reduceIte, List.getElem?_cons_zero, List.getElem?_cons_succ, nthV, List.set_cons_zero, List.set_cons_succ, noL, popA, catS, Value.category, List.length_cons, List.length_nil, Nat.reduceLT, Nat.reduceLeDiff, true_and, and_true, one0, zer1, imp_t, imp_f, ofN_nI, sdead, f20, f21, not_true_eq_false, upC_ap, upC_upC, retC, fitC, isRefT, Option.toList_some, Option.toList_none, List.cons_append, List.nil_append, Nat.lt_add_one, Nat.zero_lt_succ, Nat.le_refl, Nat.add_zero, Nat.zero_add, Nat.one_ne_zero, Nat.zero_ne_one, Nat.lt_irrefl, List.length_set, fa_X9_lawful, hi, hd, hQ, mr_X9_lawful, w8, mM_31, mM_32, mM_33, mM_34, mM_35, mM_36, mM_37, mM_38, mM_39, mM_40, mM_41, mM_42, mM_43, mM_44, mM_45, mM_46, mM_47, mM_48, mu_31, mu_32, mu_33, mu_34, mu_35, mu_36, mu_37, mu_38, mu_39, mu_40, mu_41, mu_42, mu_43, mu_44, mu_45, mu_46, mu_47, mu_48, mO_len, mg_0, mg_1, mg_2, mg_3, mg_4, mg_5, mg_6, mg_7, mg_8, mg_9, mg_10, mg_11, mg_12, mg_13, mg_14, mg_15, mg_16, mg_17, mg_18, mg_19, mg_20, mg_21, mg_22, mg_23, mg_24, mg_25, mg_26, mg_27, mg_28, mg_29, mg_30, mg_31, mg_32, mg_33, mg_34, mg_35, ms_2, ms_8, ms_9, ms_10, ms_11, ms_12, ms_13, ms_14, ms_15, ms_16, ms_17, ms_18, ms_19, ms_22, ms_23, ms_32, ms_33, ms_34, ms_35, cN_0, vN_0, cN_1, vN_1, cN_2, vN_2, cN_3, vN_3, cN_4, vN_4, cN_5, vN_5, cN_6, vN_6, cN_7, vN_7, cN_8, vN_8, cN_9, vN_9, cN_190, vN_190, wpC, stpC, PC, PV, reduceCtorEq]
  try simp only [m1f]
  try simp (disch := omega) only [nmod, nI_leI, nI_ltI, nI_eq, nI_clamp, vin_nI, nI_1, fa_lit, nI_add, nI_rm3, nI_rm2, pk_rem, pk_mul, pk_sub, pk_div, nI_eM, nI_Me, nI_pM, nI_pMz, nI_pM0, M1_lt, M1_le, nI_ltM, nI_leM, i8_nI, true_and, and_true, false_implies, true_implies, not_false_eq_true, not_true_eq_false, ne_eq, implies_true, Nat.not_lt_zero, Nat.zero_le, ite_min, max0, Nat.reduceLT, Nat.reduceLeDiff, Nat.reduceEqDiff, Nat.reduceAdd, Nat.reduceMul, Nat.add_zero, Nat.zero_add, w8]
  try simp only [m1u]
  exact loop 4 0 _ _ _ (by omega) ⟨rfl, rfl, rfl, rfl, rfl, rfl⟩ rfl rfl
theorem t9_payOf (hG : Ok G) (hd1 : 9 ≤ d) (hH : Hb S bs gn I W) (hL : WL W L) (hs : WyM S bs s) {t : Nat} (ht : t < tn S) (hgt : ¬ nI t = gn) : Tr G d 183 [.ref 31, .int (nI t)] n z (mM f0 I W A s) (Rr (nI (pyN S L bs t)) n z f0 I W A S bs) := by
  obtain ⟨⟨hB, ⟨hV, hM⟩, hK⟩, h, hI⟩ := id hH
  obtain ⟨e, e'⟩ := h.2.1 t ht
  have e := e hgt
  obtain ⟨c, hc, ec⟩ := hV.tent ht (fun q => hgt (e'.mpr q))
  have hcc : (S 2 t).toNatClampNeg = c := by rw [ec, nI_clamp (by have := hc.1.1; omega)]
  have hc1 := hc.1.1
  rw [ec] at e
  have h10 := hB.1.2
  refine Tr.of2 (ls0 := [.ref 31, .int (nI t), dead]) hG mo_X9_payOf (Nat.le_of_ble_eq_true rfl) rfl ?_
  intro X hi hd hXn hXz hXf hQ
  refine wpC_sound (PC_ok hG _) (by rw [hi]; exact ok_X9_payOf) (hd := [5, 18, 23, 27]) 400 _ _ _ _ _ _ ?_
  simp only [wp, stp, List.mem_cons, List.not_mem_nil, Nat.reduceEqDiff, or_false, or_self, false_or, or_true, true_or, Nat.reduceAdd, ↓reduceIte, List.getElem?_cons_zero, List.getElem?_cons_succ, nthV, List.set_cons_zero, List.set_cons_succ, noL, popA, catS, Value.category, List.length_cons, List.length_nil, Nat.reduceLT, Nat.reduceLeDiff, true_and, and_true, one0, zer1, imp_t, imp_f, ofN_nI, sdead, f20, f21, not_true_eq_false, upC_ap, upC_upC, retC, fitC, isRefT, Option.toList_some, Option.toList_none, List.cons_append, List.nil_append, Nat.lt_add_one, Nat.zero_lt_succ, Nat.le_refl, Nat.add_zero, Nat.zero_add, Nat.one_ne_zero, Nat.zero_ne_one, Nat.lt_irrefl, List.length_set, fa_X9_payOf, hi, hd, hQ, mr_X9_payOf, mM_31, mM_32, mM_33, mM_34, mM_35, mM_36, mM_37, mM_38, mM_39, mM_40, mM_41, mM_42, mM_43, mM_44, mM_45, mM_46, mM_47, mM_48, mu_31, mu_32, mu_33, mu_34, mu_35, mu_36, mu_37, mu_38, mu_39, mu_40, mu_41, mu_42, mu_43, mu_44, mu_45, mu_46, mu_47, mu_48, mO_len, mg_0, mg_1, mg_2, mg_3, mg_4, mg_5, mg_6, mg_7, mg_8, mg_9, mg_10, mg_11, mg_12, mg_13, mg_14, mg_15, mg_16, mg_17, mg_18, mg_19, mg_20, mg_21, mg_22, mg_23, mg_24, mg_25, mg_26, mg_27, mg_28, mg_29, mg_30, mg_31, mg_32, mg_33, mg_34, mg_35, ms_2, ms_8, ms_9, ms_10, ms_11, ms_12, ms_13, ms_14, ms_15, ms_16, ms_17, ms_18, ms_19, ms_22, ms_23, ms_32, ms_33, ms_34, ms_35, cN_0, vN_0, cN_1, vN_1, cN_2, vN_2, cN_3, vN_3, cN_4, vN_4, cN_5, vN_5, cN_6, vN_6, cN_7, vN_7, cN_8, vN_8, cN_9, vN_9, cN_190, vN_190, wpC, stpC, PC, PV, reduceCtorEq]
  try simp only [m1f]
  try simp (disch := omega) only [nmod, nI_leI, nI_ltI, nI_eq, nI_clamp, vin_nI, nI_1, fa_lit, nI_add, nI_rm3, nI_rm2, pk_rem, pk_mul, pk_sub, pk_div, nI_eM, nI_Me, nI_pM, nI_pMz, nI_pM0, M1_lt, M1_le, nI_ltM, nI_leM, i8_nI, true_and, and_true, false_implies, true_implies, not_false_eq_true, not_true_eq_false, ne_eq, implies_true, Nat.not_lt_zero, Nat.zero_le, ite_min, max0, Nat.reduceLT, Nat.reduceLeDiff, Nat.reduceEqDiff, Nat.reduceAdd, Nat.reduceMul, Nat.add_zero, Nat.zero_add]
  try simp only [m1u]
  refine ⟨by omega, _, t9_kinOf hG (by omega) hH ht hgt, ?_⟩
  rintro v n1 z1 f1 ⟨rfl, rfl, rfl, rfl⟩
  have hkn := cnt1_le (fun o => kiS S o t) (tn S)
  have hkn : knN S t ≤ tn S := hkn
  refine wpC_sound (PC_ok hG _) (by rw [hi]; exact ok_X9_payOf) (hd := [5, 18, 23, 27]) 400 _ _ _ _ _ _ ?_
  simp only [wp, stp, List.mem_cons, List.not_mem_nil, Nat.reduceEqDiff, or_false, or_self, false_or, or_true, true_or, Nat.reduceAdd, ↓reduceIte, List.getElem?_cons_zero, List.getElem?_cons_succ, nthV, List.set_cons_zero, List.set_cons_succ, noL, popA, catS, Value.category, List.length_cons, List.length_nil, Nat.reduceLT, Nat.reduceLeDiff, true_and, and_true, one0, zer1, imp_t, imp_f, ofN_nI, sdead, f20, f21, not_true_eq_false, upC_ap, upC_upC, retC, fitC, isRefT, Option.toList_some, Option.toList_none, List.cons_append, List.nil_append, Nat.lt_add_one, Nat.zero_lt_succ, Nat.le_refl, Nat.add_zero, Nat.zero_add, Nat.one_ne_zero, Nat.zero_ne_one, Nat.lt_irrefl, List.length_set, fa_X9_payOf, hi, hd, hQ, mr_X9_payOf, e, mM_31, mM_32, mM_33, mM_34, mM_35, mM_36, mM_37, mM_38, mM_39, mM_40, mM_41, mM_42, mM_43, mM_44, mM_45, mM_46, mM_47, mM_48, mu_31, mu_32, mu_33, mu_34, mu_35, mu_36, mu_37, mu_38, mu_39, mu_40, mu_41, mu_42, mu_43, mu_44, mu_45, mu_46, mu_47, mu_48, mO_len, mg_0, mg_1, mg_2, mg_3, mg_4, mg_5, mg_6, mg_7, mg_8, mg_9, mg_10, mg_11, mg_12, mg_13, mg_14, mg_15, mg_16, mg_17, mg_18, mg_19, mg_20, mg_21, mg_22, mg_23, mg_24, mg_25, mg_26, mg_27, mg_28, mg_29, mg_30, mg_31, mg_32, mg_33, mg_34, mg_35, ms_2, ms_8, ms_9, ms_10, ms_11, ms_12, ms_13, ms_14, ms_15, ms_16, ms_17, ms_18, ms_19, ms_22, ms_23, ms_32, ms_33, ms_34, ms_35, cN_0, vN_0, cN_1, vN_1, cN_2, vN_2, cN_3, vN_3, cN_4, vN_4, cN_5, vN_5, cN_6, vN_6, cN_7, vN_7, cN_8, vN_8, cN_9, vN_9, cN_190, vN_190, wpC, stpC, PC, PV, reduceCtorEq]
  try simp only [m1f]
  try simp (disch := omega) only [nmod, nI_leI, nI_ltI, nI_eq, nI_clamp, vin_nI, nI_1, fa_lit, nI_add, nI_rm3, nI_rm2, pk_rem, pk_mul, pk_sub, pk_div, nI_eM, nI_Me, nI_pM, nI_pMz, nI_pM0, M1_lt, M1_le, nI_ltM, nI_leM, i8_nI, true_and, and_true, false_implies, true_implies, not_false_eq_true, not_true_eq_false, ne_eq, implies_true, Nat.not_lt_zero, Nat.zero_le, ite_min, max0, Nat.reduceLT, Nat.reduceLeDiff, Nat.reduceEqDiff, Nat.reduceAdd, Nat.reduceMul, Nat.add_zero, Nat.zero_add, e]
  try simp only [m1u]
  refine ⟨by omega, by omega, by omega, _, t9_farOf hG (by omega) hH hs ht hgt, ?_⟩
  rintro v n1 z1 f1 ⟨rfl, rfl, rfl, s1, rfl, hs1⟩
  refine wpC_sound (PC_ok hG _) (by rw [hi]; exact ok_X9_payOf) (hd := [5, 18, 23, 27]) 400 _ _ _ _ _ _ ?_
  simp only [wp, stp, List.mem_cons, List.not_mem_nil, Nat.reduceEqDiff, or_false, or_self, false_or, or_true, true_or, Nat.reduceAdd, ↓reduceIte, List.getElem?_cons_zero, List.getElem?_cons_succ, nthV, List.set_cons_zero, List.set_cons_succ, noL, popA, catS, Value.category, List.length_cons, List.length_nil, Nat.reduceLT, Nat.reduceLeDiff, true_and, and_true, one0, zer1, imp_t, imp_f, ofN_nI, sdead, f20, f21, not_true_eq_false, upC_ap, upC_upC, retC, fitC, isRefT, Option.toList_some, Option.toList_none, List.cons_append, List.nil_append, Nat.lt_add_one, Nat.zero_lt_succ, Nat.le_refl, Nat.add_zero, Nat.zero_add, Nat.one_ne_zero, Nat.zero_ne_one, Nat.lt_irrefl, List.length_set, fa_X9_payOf, hi, hd, hQ, mr_X9_payOf, mM_31, mM_32, mM_33, mM_34, mM_35, mM_36, mM_37, mM_38, mM_39, mM_40, mM_41, mM_42, mM_43, mM_44, mM_45, mM_46, mM_47, mM_48, mu_31, mu_32, mu_33, mu_34, mu_35, mu_36, mu_37, mu_38, mu_39, mu_40, mu_41, mu_42, mu_43, mu_44, mu_45, mu_46, mu_47, mu_48, mO_len, mg_0, mg_1, mg_2, mg_3, mg_4, mg_5, mg_6, mg_7, mg_8, mg_9, mg_10, mg_11, mg_12, mg_13, mg_14, mg_15, mg_16, mg_17, mg_18, mg_19, mg_20, mg_21, mg_22, mg_23, mg_24, mg_25, mg_26, mg_27, mg_28, mg_29, mg_30, mg_31, mg_32, mg_33, mg_34, mg_35, ms_2, ms_8, ms_9, ms_10, ms_11, ms_12, ms_13, ms_14, ms_15, ms_16, ms_17, ms_18, ms_19, ms_22, ms_23, ms_32, ms_33, ms_34, ms_35, cN_0, vN_0, cN_1, vN_1, cN_2, vN_2, cN_3, vN_3, cN_4, vN_4, cN_5, vN_5, cN_6, vN_6, cN_7, vN_7, cN_8, vN_8, cN_9, vN_9, cN_190, vN_190, wpC, stpC, PC, PV, reduceCtorEq]
  try simp only [m1f]
  try simp (disch := omega) only [nmod, nI_leI, nI_ltI, nI_eq, nI_clamp, vin_nI, nI_1, fa_lit, nI_add, nI_rm3, nI_rm2, pk_rem, pk_mul, pk_sub, pk_div, nI_eM, nI_Me, nI_pM, nI_pMz, nI_pM0, M1_lt, M1_le, nI_ltM, nI_leM, i8_nI, true_and, and_true, false_implies, true_implies, not_false_eq_true, not_true_eq_false, ne_eq, implies_true, Nat.not_lt_zero, Nat.zero_le, ite_min, max0, Nat.reduceLT, Nat.reduceLeDiff, Nat.reduceEqDiff, Nat.reduceAdd, Nat.reduceMul, Nat.add_zero, Nat.zero_add]
  try simp only [m1u]
  refine ⟨by omega, _, t9_nearOf hG (by omega) hH hs1 ht hgt, ?_⟩
  rintro v n1 z1 f1 ⟨rfl, rfl, rfl, s2, rfl, hs2⟩
  refine wpC_sound (PC_ok hG _) (by rw [hi]; exact ok_X9_payOf) (hd := [5, 18, 23, 27]) 400 _ _ _ _ _ _ ?_
  simp only [wp, stp, List.mem_cons, List.not_mem_nil, Nat.reduceEqDiff, or_false, or_self, false_or, or_true, true_or, Nat.reduceAdd, ↓reduceIte, List.getElem?_cons_zero, List.getElem?_cons_succ, nthV, List.set_cons_zero, List.set_cons_succ, noL, popA, catS, Value.category, List.length_cons, List.length_nil, Nat.reduceLT, Nat.reduceLeDiff, true_and, and_true, one0, zer1, imp_t, imp_f, ofN_nI, sdead, f20, f21, not_true_eq_false, upC_ap, upC_upC, retC, fitC, isRefT, Option.toList_some, Option.toList_none, List.cons_append, List.nil_append, Nat.lt_add_one, Nat.zero_lt_succ, Nat.le_refl, Nat.add_zero, Nat.zero_add, Nat.one_ne_zero, Nat.zero_ne_one, Nat.lt_irrefl, List.length_set, fa_X9_payOf, hi, hd, hQ, mr_X9_payOf, mM_31, mM_32, mM_33, mM_34, mM_35, mM_36, mM_37, mM_38, mM_39, mM_40, mM_41, mM_42, mM_43, mM_44, mM_45, mM_46, mM_47, mM_48, mu_31, mu_32, mu_33, mu_34, mu_35, mu_36, mu_37, mu_38, mu_39, mu_40, mu_41, mu_42, mu_43, mu_44, mu_45, mu_46, mu_47, mu_48, mO_len, mg_0, mg_1, mg_2, mg_3, mg_4, mg_5, mg_6, mg_7, mg_8, mg_9, mg_10, mg_11, mg_12, mg_13, mg_14, mg_15, mg_16, mg_17, mg_18, mg_19, mg_20, mg_21, mg_22, mg_23, mg_24, mg_25, mg_26, mg_27, mg_28, mg_29, mg_30, mg_31, mg_32, mg_33, mg_34, mg_35, ms_2, ms_8, ms_9, ms_10, ms_11, ms_12, ms_13, ms_14, ms_15, ms_16, ms_17, ms_18, ms_19, ms_22, ms_23, ms_32, ms_33, ms_34, ms_35, cN_0, vN_0, cN_1, vN_1, cN_2, vN_2, cN_3, vN_3, cN_4, vN_4, cN_5, vN_5, cN_6, vN_6, cN_7, vN_7, cN_8, vN_8, cN_9, vN_9, cN_190, vN_190, wpC, stpC, PC, PV, reduceCtorEq]
  try simp only [m1f]
  try simp (disch := omega) only [nmod, nI_leI, nI_ltI, nI_eq, nI_clamp, vin_nI, nI_1, fa_lit, nI_add, nI_rm3, nI_rm2, pk_rem, pk_mul, pk_sub, pk_div, nI_eM, nI_Me, nI_pM, nI_pMz, nI_pM0, M1_lt, M1_le, nI_ltM, nI_leM, i8_nI, true_and, and_true, false_implies, true_implies, not_false_eq_true, not_true_eq_false, ne_eq, implies_true, Nat.not_lt_zero, Nat.zero_le, ite_min, max0, Nat.reduceLT, Nat.reduceLeDiff, Nat.reduceEqDiff, Nat.reduceAdd, Nat.reduceMul, Nat.add_zero, Nat.zero_add]
  try simp only [m1u]
  refine ⟨by omega, _, t9_lawful hG (by omega) hB h hL hs2 hc.1, ?_⟩
  rintro v n1 z1 f1 ⟨rfl, rfl, rfl, s3, rfl, hs3⟩
  have h9 := (cmN_spec (L.2.2 (fcF S c (min (fkN S bs t) (faA S bs t (S 2 t).toNatClampNeg)) (neA S bs t (S 2 t).toNatClampNeg) (knN S t)))).1
  refine wpC_sound (PC_ok hG _) (by rw [hi]; exact ok_X9_payOf) (hd := [5, 18, 23, 27]) 400 _ _ _ _ _ _ ?_
  simp only [wp, stp, List.mem_cons, List.not_mem_nil, Nat.reduceEqDiff, or_false, or_self, false_or, or_true, true_or, Nat.reduceAdd, ↓reduceIte, List.getElem?_cons_zero, List.getElem?_cons_succ, nthV, List.set_cons_zero, List.set_cons_succ, noL, popA, catS, Value.category, List.length_cons, List.length_nil, Nat.reduceLT, Nat.reduceLeDiff, true_and, and_true, one0, zer1, imp_t, imp_f, ofN_nI, sdead, f20, f21, not_true_eq_false, upC_ap, upC_upC, retC, fitC, isRefT, Option.toList_some, Option.toList_none, List.cons_append, List.nil_append, Nat.lt_add_one, Nat.zero_lt_succ, Nat.le_refl, Nat.add_zero, Nat.zero_add, Nat.one_ne_zero, Nat.zero_ne_one, Nat.lt_irrefl, List.length_set, fa_X9_payOf, hi, hd, hQ, mr_X9_payOf, mM_31, mM_32, mM_33, mM_34, mM_35, mM_36, mM_37, mM_38, mM_39, mM_40, mM_41, mM_42, mM_43, mM_44, mM_45, mM_46, mM_47, mM_48, mu_31, mu_32, mu_33, mu_34, mu_35, mu_36, mu_37, mu_38, mu_39, mu_40, mu_41, mu_42, mu_43, mu_44, mu_45, mu_46, mu_47, mu_48, mO_len, mg_0, mg_1, mg_2, mg_3, mg_4, mg_5, mg_6, mg_7, mg_8, mg_9, mg_10, mg_11, mg_12, mg_13, mg_14, mg_15, mg_16, mg_17, mg_18, mg_19, mg_20, mg_21, mg_22, mg_23, mg_24, mg_25, mg_26, mg_27, mg_28, mg_29, mg_30, mg_31, mg_32, mg_33, mg_34, mg_35, ms_2, ms_8, ms_9, ms_10, ms_11, ms_12, ms_13, ms_14, ms_15, ms_16, ms_17, ms_18, ms_19, ms_22, ms_23, ms_32, ms_33, ms_34, ms_35, cN_0, vN_0, cN_1, vN_1, cN_2, vN_2, cN_3, vN_3, cN_4, vN_4, cN_5, vN_5, cN_6, vN_6, cN_7, vN_7, cN_8, vN_8, cN_9, vN_9, cN_190, vN_190, wpC, stpC, PC, PV, reduceCtorEq]
  try simp only [m1f]
  try simp (disch := omega) only [nmod, nI_leI, nI_ltI, nI_eq, nI_clamp, vin_nI, nI_1, fa_lit, nI_add, nI_rm3, nI_rm2, pk_rem, pk_mul, pk_sub, pk_div, nI_eM, nI_Me, nI_pM, nI_pMz, nI_pM0, M1_lt, M1_le, nI_ltM, nI_leM, i8_nI, true_and, and_true, false_implies, true_implies, not_false_eq_true, not_true_eq_false, ne_eq, implies_true, Nat.not_lt_zero, Nat.zero_le, ite_min, max0, Nat.reduceLT, Nat.reduceLeDiff, Nat.reduceEqDiff, Nat.reduceAdd, Nat.reduceMul, Nat.add_zero, Nat.zero_add]
  try simp only [m1u]
  refine Rr.i ?_ hs3
  unfold pyN pyC payF
  rw [hcc]
theorem upd_id {g : Nat → Int32} {i : Nat} {x : Int32} : upd (upd g i x) i (g i) = g := by
  funext j; rw [upd_ap, upd_ap]
  by_cases q : j = i
  · rw [if_pos q, q]
  · rw [if_neg q, if_neg q]
end M5s
