-- the reference: a noon
set_option maxRecDepth 100000
set_option maxHeartbeats 4000000
/-- a state between calls, in the reference -/
def HV (S : Sta) (L : Lw) (I W : Nat → Int32) (s : Sc) : Prop := (VS S ∧ MG S) ∧ WR S 1 (-1) W ∧ WL W L ∧ WyM S 1 s ∧ I 23 = -1
section M9s
variable {G : Gam} {d n z : Nat} {f f0 : Mf} {I W : Nat → Int32} {A : Nat → Nat → Int32} {s : Sc} {S S' : Sta} {bs gn : Int32} {L : Lw}
theorem HV.hb (h : HV S L I W s) : Hb S 1 (-1) I W := ⟨⟨h.1.1.1.1, ⟨h.1.1.2.1, h.1.2⟩, h.1.1.2.2.2.2.2.2⟩, h.2.1, h.2.2.2.2⟩
theorem HV.dr {s' : Sc} (h : HV S L I W s) (v : Int32) (hs : WyM S 1 s') : HV (upS S 0 2 v) L I (upd W 2 v) s' := by
  have hS : SmP S (upS S 0 2 v) := SmP.num S 2 v (Or.inl rfl)
  exact ⟨⟨h.1.1.dr v, fun m hm => by rw [hS.emn] at hm; rw [hS.2.2.2.2]; exact h.1.2 m hm⟩, h.2.1.n2 v, h.2.2.1.cong (fun i hi => by rw [upd_ap, if_neg (by omega)]), hs.cg (hS.op 1), h.2.2.2.2⟩
theorem HV.mv (h : HV S L I W s) {t c : Nat} (ht : t < tn S) (hc : c < 100) (hcs : csN S t c) : HV (upS S 2 t (nI c)) L I (upd W (120 + 6 * t) (nI c)) s := by
  have h10 := h.1.1.1.1.1.2
  have hb := h.hb.mv ht ((gr_gs h.1.1.1.1 hc).mp hcs.1.1) (fun q => (nI_em (by omega)).mp q)
  exact ⟨⟨h.1.1.mv ht hc hcs, hb.1.2.1.2⟩, hb.2.1, h.2.2.1.cong (fun i hi => by rw [upd_ap, if_neg (by omega)]), h.2.2.2.1.cg (mv_op t _), h.2.2.2.2⟩
theorem wishS_ne (hS : VS S) {th : Int32} {t c : Nat} (ht : t < tn S) (h : wishS S L th t = some c) : ¬ nI c = S 2 t := by
  obtain ⟨h0, hh, eh⟩ := hS.home ht
  have hh1 := hh.1.1
  have hc := wishS_lt h
  unfold wishS at h
  by_cases m3 : S 4 t = 3
  · rw [if_pos m3] at h
    by_cases ht0 : th = 0
    · rw [if_pos ht0] at h
      by_cases q : csS S (whY S) (nI t) (S 3 t) ∧ ¬ whY S = S 2 t
      · have e : whS S t = some (whY S).toNatClampNeg := if_pos q
        rw [e] at h
        obtain ⟨k, hk, ek⟩ := inS_nI q.1.1.1.1
        have q2 := q.2
        rw [ek] at h q2
        rw [nI_clamp (by omega)] at h
        cases h
        exact q2
      · have e : whS S t = none := if_neg q
        rw [e] at h; cases h
    · rw [if_neg ht0] at h; cases h
  · rw [if_neg m3] at h
    by_cases m0 : S 4 t = 0
    · rw [if_pos m0] at h; cases h
    · rw [if_neg m0] at h
      unfold wsF at h
      split at h
      · cases h
      · next q hq =>
        split at h
        · next r =>
          cases h
          intro e
          unfold fsb at hq
          have e2 := (amx_in hq).2.2
          rw [eh] at e
          have e3 := nI_inj (by omega) (by omega) e
          unfold pyN at r
          rw [eh, nI_clamp (by omega), ← e3, ← e2] at r
          omega
        · cases h
theorem ww1_2 {th : Int32} : ∀ k, (ww1 L th S k).1 2 = S 2
  | 0 => rfl
  | k + 1 => by
    show upS (ww1 L th S k).1 0 2 (drS (ww1 L th S k).1 th k) 2 = S 2
    rw [upS_row (by omega)]; exact ww1_2 k
theorem stp1_2 {th : Int32} {wl : Option (Nat → Option Nat)} {T : Sta} {k : Nat} : stp1 th wl T k 2 = T 2 := by
  unfold stp1
  cases wl with
  | none => exact upS_row (by omega)
  | some g => rfl
theorem nn1_2 {th : Int32} {wl : Option (Nat → Option Nat)} : ∀ k t, k ≤ t → (nn1 L th wl S k).1 2 t = S 2 t
  | 0, _, _ => rfl
  | k + 1, t, hkt => by
    by_cases h : goP (stp1 th wl (nn1 L th wl S k).1 k) k (wsh1 L th wl (nn1 L th wl S k).1 k)
    · rw [nn1_go h]
      show upS _ 2 k _ 2 t = _
      rw [upS_ne (by omega), stp1_2]; exact nn1_2 k t (by omega)
    · rw [nn1_st h]
      show stp1 th wl _ k 2 t = _
      rw [stp1_2]; exact nn1_2 k t (by omega)
/-- how a noon ends -/
def noQ (S : Sta) (L : Lw) (th : Int32) (n z : Nat) (f0 : Mf) (I : Nat → Int32) (A : Nat → Nat → Int32) : Po := fun v n' z' f' => v = some (.int (nI (noonS L th S).2.2)) ∧ n' = n ∧ z' = z ∧ ∃ W' A' s', f' = mM f0 I W' A' s' ∧ HV (noonS L th S).1 L I W' s' ∧ (∀ j, ¬ j = 41 → ¬ j = 42 → A' j = A j) ∧ ∀ t, t < tn S → A' 42 t = (noonS L th S).2.1 t
/-- the tents go, one after the other -/
theorem noon_go (hG : Ok G) (hd1 : 13 ≤ d) {X : Fx} (hi : X.i = 188) (hd : X.d = d) {th : Int32} (hth : th = 0 ∨ th = 1) {S1 : Sta} {wl : Option (Nat → Option Nat)} (hwl : (S1 0 7 = 0 ∧ wl = none) ∨ (S1 0 7 = 1 ∧ ∃ g, wl = some g ∧ ∀ t c, t < tn S1 → g t = some c → c < 100 ∧ ¬ nI c = S1 2 t)) (hlt : ∀ g, wl = some g → ∀ t c, g t = some c → c < 100)
    (hr : noonS L th S = nn1 L th wl S1 (tn S1)) (hts : tn S1 = tn S) (hQ : X.Q = noQ S L th n z f0 I A) (hVS : VS S1) : ∀ j k W A' s, k + j = tn S1 → HV (nn1 L th wl S1 k).1 L I W s → (∀ j, ¬ j = 41 → ¬ j = 42 → A' j = A j) → (∀ t, t < k → A' 42 t = (nn1 L th wl S1 k).2.1 t) → (∀ g, wl = some g → ∀ t, t < tn S1 → A' 41 t = (match g t with | some c => nI c | none => S1 2 t)) → ∀ u4, V G X 45 [.ref 31, .int th, .int (nI (nn1 L th wl S1 k).2.2), .int (nI k), u4] [] n z (mM f0 I W A' s) := by
  intro j
  induction j with
  | zero =>
    intro k W A' s hk h hA h42 h41 u4
    have : k = tn S1 := by omega
    subst this
    have hok := nn1_ok (L := L) (th := th) hVS hlt (tn S1) (Nat.le_refl _)
    obtain ⟨w0, w1, w2, w3, -⟩ := h.2.1.ten
    obtain ⟨⟨b1, b2⟩, -⟩ := id h.1.1.1.1
    rw [hok.2.etn] at b1 b2
    refine wpC_sound (PC_ok hG _) (by rw [hi]; exact ok_X9_noon) (hd := [4, 36, 45, 81, 106]) 400 _ _ _ _ _ _ ?_
    simp only [wp, stp, List.mem_cons, List.not_mem_nil, Nat.reduceEqDiff, or_false, or_self, false_or, or_true, true_or, Nat.reduceAdd, ↓reduceIte, List.getElem?_cons_zero, List.getElem?_cons_succ, nthV, List.set_cons_zero, List.set_cons_succ, noL, popA, catS, Value.category, List.length_cons, List.length_nil, Nat.reduceLT, Nat.reduceLeDiff, true_and, and_true, one0, zer1, imp_t, imp_f, ofN_nI, sdead, f20, f21, not_true_eq_false, upC_ap, upC_upC, retC, fitC, isRefT, Option.toList_some, Option.toList_none, List.cons_append, List.nil_append, Nat.lt_add_one, Nat.zero_lt_succ, Nat.le_refl, Nat.add_zero, Nat.zero_add, Nat.one_ne_zero, Nat.zero_ne_one, Nat.lt_irrefl, List.length_set, fa_X9_noon, hi, hd, hQ, mr_X9_noon, w3, b1, mM_31, mM_32, mM_33, mM_34, mM_35, mM_36, mM_37, mM_38, mM_39, mM_40, mM_41, mM_42, mM_43, mM_44, mM_45, mM_46, mM_47, mM_48, mu_31, mu_32, mu_33, mu_34, mu_35, mu_36, mu_37, mu_38, mu_39, mu_40, mu_41, mu_42, mu_43, mu_44, mu_45, mu_46, mu_47, mu_48, mO_len, mg_0, mg_1, mg_2, mg_3, mg_4, mg_5, mg_6, mg_7, mg_8, mg_9, mg_10, mg_11, mg_12, mg_13, mg_14, mg_15, mg_16, mg_17, mg_18, mg_19, mg_20, mg_21, mg_22, mg_23, mg_24, mg_25, mg_26, mg_27, mg_28, mg_29, mg_30, mg_31, mg_32, mg_33, mg_34, mg_35, ms_2, ms_8, ms_9, ms_10, ms_11, ms_12, ms_13, ms_14, ms_15, ms_16, ms_17, ms_18, ms_19, ms_22, ms_23, ms_32, ms_33, ms_34, ms_35, cN_0, vN_0, cN_1, vN_1, cN_2, vN_2, cN_3, vN_3, cN_4, vN_4, cN_5, vN_5, cN_6, vN_6, cN_7, vN_7, cN_8, vN_8, cN_9, vN_9, cN_190, vN_190, wpC, stpC, PC, PV, reduceCtorEq]
    try simp only [m1f]
    try simp (disch := omega) only [nmod, nI_leI, nI_ltI, nI_eq, nI_clamp, vin_nI, nI_1, fa_lit, nI_add, nI_rm3, nI_rm2, pk_rem, pk_mul, pk_sub, pk_div, nI_eM, nI_Me, nI_pM, nI_pMz, nI_pM0, M1_lt, M1_le, nI_ltM, nI_leM, i8_nI, true_and, and_true, false_implies, true_implies, not_false_eq_true, not_true_eq_false, ne_eq, implies_true, Nat.not_lt_zero, Nat.zero_le, ite_min, max0, Nat.reduceLT, Nat.reduceLeDiff, Nat.reduceEqDiff, Nat.reduceAdd, Nat.reduceMul, Nat.add_zero, Nat.zero_add, w3, b1]
    try simp only [m1u]
    refine ⟨fun _ => ?_, fun q => absurd (Nat.le_refl _) q⟩
    unfold noQ
    rw [hr]
    exact ⟨rfl, rfl, rfl, W, A', s, rfl, h, hA, fun t ht => h42 t (by omega)⟩
  | succ j ih =>
    intro k W A' s hk h hA h42 h41 u4
    have hok := nn1_ok (L := L) (th := th) hVS hlt k (by omega)
    obtain ⟨w0, w1, w2, w3, w4, w5, w6, w7, -⟩ := h.2.1.ten
    obtain ⟨⟨b1, b2⟩, -⟩ := id h.1.1.1.1
    have hcn := nn1_cnt (L := L) (th := th) (wl := wl) (S := S1) k
    have htk : k < tn (nn1 L th wl S1 k).1 := by rw [hok.2.etn]; omega
    have et := hok.2.etn
    rw [et] at b1 b2
    have e7 : (nn1 L th wl S1 k).1 0 7 = S1 0 7 := hok.2.1 7 (by omega)
    have hkk : ¬ tn S1 ≤ k := by omega
    have L81 : ∀ W s c u4, HV (stp1 th wl (nn1 L th wl S1 k).1 k) L I W s → c = (match wsh1 L th wl (nn1 L th wl S1 k).1 k with | some c => nI c | none => (nn1 L th wl S1 k).1 2 k) → (∀ c, wsh1 L th wl (nn1 L th wl S1 k).1 k = some c → c < 100 ∧ ¬ nI c = (nn1 L th wl S1 k).1 2 k) → V G X 81 [.ref 31, .int th, .int (nI (nn1 L th wl S1 k).2.2), .int (nI k), u4] [.int c] n z (mM f0 I W A' s) := by
      intro W s c u4 hT hc hne
      obtain ⟨T, hTd⟩ : ∃ T, T = stp1 th wl (nn1 L th wl S1 k).1 k := ⟨_, rfl⟩
      obtain ⟨w, hwd⟩ : ∃ w, w = wsh1 L th wl (nn1 L th wl S1 k).1 k := ⟨_, rfl⟩
      obtain ⟨cnt, hcd⟩ : ∃ cnt, cnt = (nn1 L th wl S1 k).2.2 := ⟨_, rfl⟩
      have eT2 : T 2 = (nn1 L th wl S1 k).1 2 := by rw [hTd, stp1_2]
      rw [← eT2] at hc hne
      rw [← hTd] at hT
      rw [← hwd] at hc hne
      rw [← hcd] at hcn ⊢
      have etT : tn T = tn S1 := by
        rw [hTd]; unfold stp1
        cases wl with
        | none => show tn (upS _ 0 2 _) = _; unfold tn; rw [upS_0 (by omega)]; exact et
        | some g => exact et
      have htT : k < tn T := by omega
      have e := (hT.2.1.2.1 k htT).1 (fun q => (nI_em (by omega)).mp q)
      have stay : ∀ u4, ¬ goP T k w → V G X 45 [.ref 31, .int th, .int (nI cnt), .int (nI (k + 1)), u4] [] n z (mM f0 I W (upA A' 42 (upd (A' 42) k (nI 0))) s) := by
        intro u4 hg
        have en : nn1 L th wl S1 (k + 1) = (T, upd (nn1 L th wl S1 k).2.1 k 0, cnt) := by rw [nn1_st (by rw [← hTd, ← hwd]; exact hg), ← hTd, ← hcd]
        have := ih (k + 1) W (upA A' 42 (upd (A' 42) k (nI 0))) s (by omega) (by rw [en]; exact hT) (fun j a b => by unfold upA; rw [if_neg b]; exact hA j a b) (fun t ht => by
          rw [en]
          show (upA A' 42 _) 42 t = upd _ k 0 t
          unfold upA
          rw [if_pos rfl, upd_ap, upd_ap]
          by_cases q : t = k
          · rw [if_pos q, if_pos q]; rfl
          · rw [if_neg q, if_neg q]; exact h42 t (by omega)) (fun g hg t ht => by unfold upA; rw [if_neg (by decide)]; exact h41 g hg t ht) u4
        rw [en] at this
        exact this
      cases w with
      | none =>
        have hc : c = T 2 k := hc
        rw [hc]
        refine wpC_sound (PC_ok hG _) (by rw [hi]; exact ok_X9_noon) (hd := [4, 36, 45, 81, 106]) 400 _ _ _ _ _ _ ?_
        simp only [wp, stp, List.mem_cons, List.not_mem_nil, Nat.reduceEqDiff, or_false, or_self, false_or, or_true, true_or, Nat.reduceAdd, ↓reduceIte, List.getElem?_cons_zero, List.getElem?_cons_succ, nthV, List.set_cons_zero, List.set_cons_succ, noL, popA, catS, Value.category, List.length_cons, List.length_nil, Nat.reduceLT, Nat.reduceLeDiff, true_and, and_true, one0, zer1, imp_t, imp_f, ofN_nI, sdead, f20, f21, not_true_eq_false, upC_ap, upC_upC, retC, fitC, isRefT, Option.toList_some, Option.toList_none, List.cons_append, List.nil_append, Nat.lt_add_one, Nat.zero_lt_succ, Nat.le_refl, Nat.add_zero, Nat.zero_add, Nat.one_ne_zero, Nat.zero_ne_one, Nat.lt_irrefl, List.length_set, fa_X9_noon, hi, hd, hQ, mr_X9_noon, e, mM_31, mM_32, mM_33, mM_34, mM_35, mM_36, mM_37, mM_38, mM_39, mM_40, mM_41, mM_42, mM_43, mM_44, mM_45, mM_46, mM_47, mM_48, mu_31, mu_32, mu_33, mu_34, mu_35, mu_36, mu_37, mu_38, mu_39, mu_40, mu_41, mu_42, mu_43, mu_44, mu_45, mu_46, mu_47, mu_48, mO_len, mg_0, mg_1, mg_2, mg_3, mg_4, mg_5, mg_6, mg_7, mg_8, mg_9, mg_10, mg_11, mg_12, mg_13, mg_14, mg_15, mg_16, mg_17, mg_18, mg_19, mg_20, mg_21, mg_22, mg_23, mg_24, mg_25, mg_26, mg_27, mg_28, mg_29, mg_30, mg_31, mg_32, mg_33, mg_34, mg_35, ms_2, ms_8, ms_9, ms_10, ms_11, ms_12, ms_13, ms_14, ms_15, ms_16, ms_17, ms_18, ms_19, ms_22, ms_23, ms_32, ms_33, ms_34, ms_35, cN_0, vN_0, cN_1, vN_1, cN_2, vN_2, cN_3, vN_3, cN_4, vN_4, cN_5, vN_5, cN_6, vN_6, cN_7, vN_7, cN_8, vN_8, cN_9, vN_9, cN_190, vN_190, wpC, stpC, PC, PV, reduceCtorEq]
        try simp only [m1f]
        try simp (disch := omega) only [nmod, nI_leI, nI_ltI, nI_eq, nI_clamp, vin_nI, nI_1, fa_lit, nI_add, nI_rm3, nI_rm2, pk_rem, pk_mul, pk_sub, pk_div, nI_eM, nI_Me, nI_pM, nI_pMz, nI_pM0, M1_lt, M1_le, nI_ltM, nI_leM, i8_nI, true_and, and_true, false_implies, true_implies, not_false_eq_true, not_true_eq_false, ne_eq, implies_true, Nat.not_lt_zero, Nat.zero_le, ite_min, max0, Nat.reduceLT, Nat.reduceLeDiff, Nat.reduceEqDiff, Nat.reduceAdd, Nat.reduceMul, Nat.add_zero, Nat.zero_add, e]
        try simp only [m1u]
        exact ⟨by omega, by omega, by omega, by omega, fun q => absurd (by rw [upd_ap, if_pos rfl]) q, fun _ => stay _ (fun ⟨c, a, _⟩ => by cases a)⟩
      | some y =>
        have hc : c = nI y := hc
        obtain ⟨hy, hyn⟩ := hne y rfl
        rw [hc]
        refine wpC_sound (PC_ok hG _) (by rw [hi]; exact ok_X9_noon) (hd := [4, 36, 45, 81, 106]) 400 _ _ _ _ _ _ ?_
        simp only [wp, stp, List.mem_cons, List.not_mem_nil, Nat.reduceEqDiff, or_false, or_self, false_or, or_true, true_or, Nat.reduceAdd, ↓reduceIte, List.getElem?_cons_zero, List.getElem?_cons_succ, nthV, List.set_cons_zero, List.set_cons_succ, noL, popA, catS, Value.category, List.length_cons, List.length_nil, Nat.reduceLT, Nat.reduceLeDiff, true_and, and_true, one0, zer1, imp_t, imp_f, ofN_nI, sdead, f20, f21, not_true_eq_false, upC_ap, upC_upC, retC, fitC, isRefT, Option.toList_some, Option.toList_none, List.cons_append, List.nil_append, Nat.lt_add_one, Nat.zero_lt_succ, Nat.le_refl, Nat.add_zero, Nat.zero_add, Nat.one_ne_zero, Nat.zero_ne_one, Nat.lt_irrefl, List.length_set, fa_X9_noon, hi, hd, hQ, mr_X9_noon, e, hyn, mM_31, mM_32, mM_33, mM_34, mM_35, mM_36, mM_37, mM_38, mM_39, mM_40, mM_41, mM_42, mM_43, mM_44, mM_45, mM_46, mM_47, mM_48, mu_31, mu_32, mu_33, mu_34, mu_35, mu_36, mu_37, mu_38, mu_39, mu_40, mu_41, mu_42, mu_43, mu_44, mu_45, mu_46, mu_47, mu_48, mO_len, mg_0, mg_1, mg_2, mg_3, mg_4, mg_5, mg_6, mg_7, mg_8, mg_9, mg_10, mg_11, mg_12, mg_13, mg_14, mg_15, mg_16, mg_17, mg_18, mg_19, mg_20, mg_21, mg_22, mg_23, mg_24, mg_25, mg_26, mg_27, mg_28, mg_29, mg_30, mg_31, mg_32, mg_33, mg_34, mg_35, ms_2, ms_8, ms_9, ms_10, ms_11, ms_12, ms_13, ms_14, ms_15, ms_16, ms_17, ms_18, ms_19, ms_22, ms_23, ms_32, ms_33, ms_34, ms_35, cN_0, vN_0, cN_1, vN_1, cN_2, vN_2, cN_3, vN_3, cN_4, vN_4, cN_5, vN_5, cN_6, vN_6, cN_7, vN_7, cN_8, vN_8, cN_9, vN_9, cN_190, vN_190, wpC, stpC, PC, PV, reduceCtorEq]
        try simp only [m1f]
        try simp (disch := omega) only [nmod, nI_leI, nI_ltI, nI_eq, nI_clamp, vin_nI, nI_1, fa_lit, nI_add, nI_rm3, nI_rm2, pk_rem, pk_mul, pk_sub, pk_div, nI_eM, nI_Me, nI_pM, nI_pMz, nI_pM0, M1_lt, M1_le, nI_ltM, nI_leM, i8_nI, true_and, and_true, false_implies, true_implies, not_false_eq_true, not_true_eq_false, ne_eq, implies_true, Nat.not_lt_zero, Nat.zero_le, ite_min, max0, Nat.reduceLT, Nat.reduceLeDiff, Nat.reduceEqDiff, Nat.reduceAdd, Nat.reduceMul, Nat.add_zero, Nat.zero_add, e, hyn]
        try simp only [m1u]
        refine ⟨by omega, by omega, by omega, _, t9_couldStand hG (by omega) hT.1.1.1.1 hT.2.1 htT (nI y), ?_⟩
        rintro v n1 z1 f1 ⟨rfl, rfl, rfl, rfl⟩
        by_cases hcs : csN T k y
        · rw [bI_t hcs]
          have hgo : goP T k (some y) := ⟨y, rfl, hcs⟩
          have en : nn1 L th wl S1 (k + 1) = (upS T 2 k (nI y), upd (nn1 L th wl S1 k).2.1 k 1, cnt + 1) := by rw [nn1_go (by rw [← hTd, ← hwd]; exact hgo), ← hTd, ← hcd, ← hwd]; rfl
          have nx := fun u4 => ih (k + 1) (upd W (120 + 6 * k) (nI y)) (upA A' 42 (upd (A' 42) k (nI 1))) s (by omega) (by rw [en]; exact hT.mv htT hy hcs) (fun j a b => by unfold upA; rw [if_neg b]; exact hA j a b) (fun t ht => by
            rw [en]
            show (upA A' 42 _) 42 t = upd _ k 1 t
            unfold upA
            rw [if_pos rfl, upd_ap, upd_ap]
            by_cases q : t = k
            · rw [if_pos q, if_pos q]; rfl
            · rw [if_neg q, if_neg q]; exact h42 t (by omega)) (fun g hg t ht => by unfold upA; rw [if_neg (by decide)]; exact h41 g hg t ht) u4
          rw [en] at nx
          refine wpC_sound (PC_ok hG _) (by rw [hi]; exact ok_X9_noon) (hd := [4, 36, 45, 81, 106]) 400 _ _ _ _ _ _ ?_
          simp only [wp, stp, List.mem_cons, List.not_mem_nil, Nat.reduceEqDiff, or_false, or_self, false_or, or_true, true_or, Nat.reduceAdd, ↓reduceIte, List.getElem?_cons_zero, List.getElem?_cons_succ, nthV, List.set_cons_zero, List.set_cons_succ, noL, popA, catS, Value.category, List.length_cons, List.length_nil, Nat.reduceLT, Nat.reduceLeDiff, true_and, and_true, one0, zer1, imp_t, imp_f, ofN_nI, sdead, f20, f21, not_true_eq_false, upC_ap, upC_upC, retC, fitC, isRefT, Option.toList_some, Option.toList_none, List.cons_append, List.nil_append, Nat.lt_add_one, Nat.zero_lt_succ, Nat.le_refl, Nat.add_zero, Nat.zero_add, Nat.one_ne_zero, Nat.zero_ne_one, Nat.lt_irrefl, List.length_set, fa_X9_noon, hi, hd, hQ, mr_X9_noon, mM_31, mM_32, mM_33, mM_34, mM_35, mM_36, mM_37, mM_38, mM_39, mM_40, mM_41, mM_42, mM_43, mM_44, mM_45, mM_46, mM_47, mM_48, mu_31, mu_32, mu_33, mu_34, mu_35, mu_36, mu_37, mu_38, mu_39, mu_40, mu_41, mu_42, mu_43, mu_44, mu_45, mu_46, mu_47, mu_48, mO_len, mg_0, mg_1, mg_2, mg_3, mg_4, mg_5, mg_6, mg_7, mg_8, mg_9, mg_10, mg_11, mg_12, mg_13, mg_14, mg_15, mg_16, mg_17, mg_18, mg_19, mg_20, mg_21, mg_22, mg_23, mg_24, mg_25, mg_26, mg_27, mg_28, mg_29, mg_30, mg_31, mg_32, mg_33, mg_34, mg_35, ms_2, ms_8, ms_9, ms_10, ms_11, ms_12, ms_13, ms_14, ms_15, ms_16, ms_17, ms_18, ms_19, ms_22, ms_23, ms_32, ms_33, ms_34, ms_35, cN_0, vN_0, cN_1, vN_1, cN_2, vN_2, cN_3, vN_3, cN_4, vN_4, cN_5, vN_5, cN_6, vN_6, cN_7, vN_7, cN_8, vN_8, cN_9, vN_9, cN_190, vN_190, wpC, stpC, PC, PV, reduceCtorEq]
          try simp only [m1f]
          try simp (disch := omega) only [nmod, nI_leI, nI_ltI, nI_eq, nI_clamp, vin_nI, nI_1, fa_lit, nI_add, nI_rm3, nI_rm2, pk_rem, pk_mul, pk_sub, pk_div, nI_eM, nI_Me, nI_pM, nI_pMz, nI_pM0, M1_lt, M1_le, nI_ltM, nI_leM, i8_nI, true_and, and_true, false_implies, true_implies, not_false_eq_true, not_true_eq_false, ne_eq, implies_true, Nat.not_lt_zero, Nat.zero_le, ite_min, max0, Nat.reduceLT, Nat.reduceLeDiff, Nat.reduceEqDiff, Nat.reduceAdd, Nat.reduceMul, Nat.add_zero, Nat.zero_add]
          try simp only [m1u]
          exact ⟨by omega, by omega, fun _ => ⟨by omega, by omega, nx _⟩, fun q => absurd q (by rw [upd_ap, if_pos rfl]; decide)⟩
        · rw [bI_f hcs]
          refine wpC_sound (PC_ok hG _) (by rw [hi]; exact ok_X9_noon) (hd := [4, 36, 45, 81, 106]) 400 _ _ _ _ _ _ ?_
          simp only [wp, stp, List.mem_cons, List.not_mem_nil, Nat.reduceEqDiff, or_false, or_self, false_or, or_true, true_or, Nat.reduceAdd, ↓reduceIte, List.getElem?_cons_zero, List.getElem?_cons_succ, nthV, List.set_cons_zero, List.set_cons_succ, noL, popA, catS, Value.category, List.length_cons, List.length_nil, Nat.reduceLT, Nat.reduceLeDiff, true_and, and_true, one0, zer1, imp_t, imp_f, ofN_nI, sdead, f20, f21, not_true_eq_false, upC_ap, upC_upC, retC, fitC, isRefT, Option.toList_some, Option.toList_none, List.cons_append, List.nil_append, Nat.lt_add_one, Nat.zero_lt_succ, Nat.le_refl, Nat.add_zero, Nat.zero_add, Nat.one_ne_zero, Nat.zero_ne_one, Nat.lt_irrefl, List.length_set, fa_X9_noon, hi, hd, hQ, mr_X9_noon, mM_31, mM_32, mM_33, mM_34, mM_35, mM_36, mM_37, mM_38, mM_39, mM_40, mM_41, mM_42, mM_43, mM_44, mM_45, mM_46, mM_47, mM_48, mu_31, mu_32, mu_33, mu_34, mu_35, mu_36, mu_37, mu_38, mu_39, mu_40, mu_41, mu_42, mu_43, mu_44, mu_45, mu_46, mu_47, mu_48, mO_len, mg_0, mg_1, mg_2, mg_3, mg_4, mg_5, mg_6, mg_7, mg_8, mg_9, mg_10, mg_11, mg_12, mg_13, mg_14, mg_15, mg_16, mg_17, mg_18, mg_19, mg_20, mg_21, mg_22, mg_23, mg_24, mg_25, mg_26, mg_27, mg_28, mg_29, mg_30, mg_31, mg_32, mg_33, mg_34, mg_35, ms_2, ms_8, ms_9, ms_10, ms_11, ms_12, ms_13, ms_14, ms_15, ms_16, ms_17, ms_18, ms_19, ms_22, ms_23, ms_32, ms_33, ms_34, ms_35, cN_0, vN_0, cN_1, vN_1, cN_2, vN_2, cN_3, vN_3, cN_4, vN_4, cN_5, vN_5, cN_6, vN_6, cN_7, vN_7, cN_8, vN_8, cN_9, vN_9, cN_190, vN_190, wpC, stpC, PC, PV, reduceCtorEq]
          try simp only [m1f]
          try simp (disch := omega) only [nmod, nI_leI, nI_ltI, nI_eq, nI_clamp, vin_nI, nI_1, fa_lit, nI_add, nI_rm3, nI_rm2, pk_rem, pk_mul, pk_sub, pk_div, nI_eM, nI_Me, nI_pM, nI_pMz, nI_pM0, M1_lt, M1_le, nI_ltM, nI_leM, i8_nI, true_and, and_true, false_implies, true_implies, not_false_eq_true, not_true_eq_false, ne_eq, implies_true, Nat.not_lt_zero, Nat.zero_le, ite_min, max0, Nat.reduceLT, Nat.reduceLeDiff, Nat.reduceEqDiff, Nat.reduceAdd, Nat.reduceMul, Nat.add_zero, Nat.zero_add]
          try simp only [m1u]
          exact ⟨by omega, by omega, fun q => absurd (by rw [upd_ap, if_pos rfl]) q, fun _ => stay _ (fun ⟨c, a, b⟩ => by cases a; exact hcs b)⟩
    rcases hwl with ⟨q7, rfl⟩ | ⟨q7, g, rfl, hg⟩
    · rw [q7] at e7
      refine wpC_sound (PC_ok hG _) (by rw [hi]; exact ok_X9_noon) (hd := [4, 36, 45, 81, 106]) 400 _ _ _ _ _ _ ?_
      simp only [wp, stp, List.mem_cons, List.not_mem_nil, Nat.reduceEqDiff, or_false, or_self, false_or, or_true, true_or, Nat.reduceAdd, ↓reduceIte, List.getElem?_cons_zero, List.getElem?_cons_succ, nthV, List.set_cons_zero, List.set_cons_succ, noL, popA, catS, Value.category, List.length_cons, List.length_nil, Nat.reduceLT, Nat.reduceLeDiff, true_and, and_true, one0, zer1, imp_t, imp_f, ofN_nI, sdead, f20, f21, not_true_eq_false, upC_ap, upC_upC, retC, fitC, isRefT, Option.toList_some, Option.toList_none, List.cons_append, List.nil_append, Nat.lt_add_one, Nat.zero_lt_succ, Nat.le_refl, Nat.add_zero, Nat.zero_add, Nat.one_ne_zero, Nat.zero_ne_one, Nat.lt_irrefl, List.length_set, fa_X9_noon, hi, hd, hQ, mr_X9_noon, w3, b1, w7, e7, hkk, mM_31, mM_32, mM_33, mM_34, mM_35, mM_36, mM_37, mM_38, mM_39, mM_40, mM_41, mM_42, mM_43, mM_44, mM_45, mM_46, mM_47, mM_48, mu_31, mu_32, mu_33, mu_34, mu_35, mu_36, mu_37, mu_38, mu_39, mu_40, mu_41, mu_42, mu_43, mu_44, mu_45, mu_46, mu_47, mu_48, mO_len, mg_0, mg_1, mg_2, mg_3, mg_4, mg_5, mg_6, mg_7, mg_8, mg_9, mg_10, mg_11, mg_12, mg_13, mg_14, mg_15, mg_16, mg_17, mg_18, mg_19, mg_20, mg_21, mg_22, mg_23, mg_24, mg_25, mg_26, mg_27, mg_28, mg_29, mg_30, mg_31, mg_32, mg_33, mg_34, mg_35, ms_2, ms_8, ms_9, ms_10, ms_11, ms_12, ms_13, ms_14, ms_15, ms_16, ms_17, ms_18, ms_19, ms_22, ms_23, ms_32, ms_33, ms_34, ms_35, cN_0, vN_0, cN_1, vN_1, cN_2, vN_2, cN_3, vN_3, cN_4, vN_4, cN_5, vN_5, cN_6, vN_6, cN_7, vN_7, cN_8, vN_8, cN_9, vN_9, cN_190, vN_190, wpC, stpC, PC, PV, reduceCtorEq]
      try simp only [m1f]
      try simp (disch := omega) only [nmod, nI_leI, nI_ltI, nI_eq, nI_clamp, vin_nI, nI_1, fa_lit, nI_add, nI_rm3, nI_rm2, pk_rem, pk_mul, pk_sub, pk_div, nI_eM, nI_Me, nI_pM, nI_pMz, nI_pM0, M1_lt, M1_le, nI_ltM, nI_leM, i8_nI, true_and, and_true, false_implies, true_implies, not_false_eq_true, not_true_eq_false, ne_eq, implies_true, Nat.not_lt_zero, Nat.zero_le, ite_min, max0, Nat.reduceLT, Nat.reduceLeDiff, Nat.reduceEqDiff, Nat.reduceAdd, Nat.reduceMul, Nat.add_zero, Nat.zero_add, w3, b1, w7, e7, hkk]
      try simp only [m1u]
      refine ⟨by omega, _, t9_chosen hG (by omega) rfl h.1.1 h.hb h.2.2.1 h.2.2.2.1 htk hth, ?_⟩
      rintro v n1 z1 f1 ⟨rfl, rfl, rfl, s', rfl, hs'⟩
      exact L81 _ _ _ _ (h.dr _ hs') rfl (fun c hc => ⟨wishS_lt hc, wishS_ne h.1.1 htk hc⟩)
    · rw [q7] at e7
      refine wpC_sound (PC_ok hG _) (by rw [hi]; exact ok_X9_noon) (hd := [4, 36, 45, 81, 106]) 400 _ _ _ _ _ _ ?_
      simp only [wp, stp, List.mem_cons, List.not_mem_nil, Nat.reduceEqDiff, or_false, or_self, false_or, or_true, true_or, Nat.reduceAdd, ↓reduceIte, List.getElem?_cons_zero, List.getElem?_cons_succ, nthV, List.set_cons_zero, List.set_cons_succ, noL, popA, catS, Value.category, List.length_cons, List.length_nil, Nat.reduceLT, Nat.reduceLeDiff, true_and, and_true, one0, zer1, imp_t, imp_f, ofN_nI, sdead, f20, f21, not_true_eq_false, upC_ap, upC_upC, retC, fitC, isRefT, Option.toList_some, Option.toList_none, List.cons_append, List.nil_append, Nat.lt_add_one, Nat.zero_lt_succ, Nat.le_refl, Nat.add_zero, Nat.zero_add, Nat.one_ne_zero, Nat.zero_ne_one, Nat.lt_irrefl, List.length_set, fa_X9_noon, hi, hd, hQ, mr_X9_noon, w3, b1, w7, e7, hkk, mM_31, mM_32, mM_33, mM_34, mM_35, mM_36, mM_37, mM_38, mM_39, mM_40, mM_41, mM_42, mM_43, mM_44, mM_45, mM_46, mM_47, mM_48, mu_31, mu_32, mu_33, mu_34, mu_35, mu_36, mu_37, mu_38, mu_39, mu_40, mu_41, mu_42, mu_43, mu_44, mu_45, mu_46, mu_47, mu_48, mO_len, mg_0, mg_1, mg_2, mg_3, mg_4, mg_5, mg_6, mg_7, mg_8, mg_9, mg_10, mg_11, mg_12, mg_13, mg_14, mg_15, mg_16, mg_17, mg_18, mg_19, mg_20, mg_21, mg_22, mg_23, mg_24, mg_25, mg_26, mg_27, mg_28, mg_29, mg_30, mg_31, mg_32, mg_33, mg_34, mg_35, ms_2, ms_8, ms_9, ms_10, ms_11, ms_12, ms_13, ms_14, ms_15, ms_16, ms_17, ms_18, ms_19, ms_22, ms_23, ms_32, ms_33, ms_34, ms_35, cN_0, vN_0, cN_1, vN_1, cN_2, vN_2, cN_3, vN_3, cN_4, vN_4, cN_5, vN_5, cN_6, vN_6, cN_7, vN_7, cN_8, vN_8, cN_9, vN_9, cN_190, vN_190, wpC, stpC, PC, PV, reduceCtorEq]
      try simp only [m1f]
      try simp (disch := omega) only [nmod, nI_leI, nI_ltI, nI_eq, nI_clamp, vin_nI, nI_1, fa_lit, nI_add, nI_rm3, nI_rm2, pk_rem, pk_mul, pk_sub, pk_div, nI_eM, nI_Me, nI_pM, nI_pMz, nI_pM0, M1_lt, M1_le, nI_ltM, nI_leM, i8_nI, true_and, and_true, false_implies, true_implies, not_false_eq_true, not_true_eq_false, ne_eq, implies_true, Nat.not_lt_zero, Nat.zero_le, ite_min, max0, Nat.reduceLT, Nat.reduceLeDiff, Nat.reduceEqDiff, Nat.reduceAdd, Nat.reduceMul, Nat.add_zero, Nat.zero_add, w3, b1, w7, e7, hkk]
      try simp only [m1u]
      have e2 : (nn1 L th (some g) S1 k).1 2 k = S1 2 k := nn1_2 k k (Nat.le_refl _)
      refine ⟨by omega, L81 _ _ _ _ h ?_ (fun c hc => ?_)⟩
      · rw [h41 g rfl k (by omega), e2]; rfl
      · rw [e2]; exact hg k c (by omega) hc
theorem t9_noon (hG : Ok G) (hd1 : 13 ≤ d) (h : HV S L I W s) {th : Int32} (hth : th = 0 ∨ th = 1) : Tr G d 188 [.ref 31, .int th] n z (mM f0 I W A s) (noQ S L th n z f0 I A) := by
  refine Tr.of2 (ls0 := [.ref 31, .int th, dead, dead, dead]) hG mo_X9_noon (Nat.le_of_ble_eq_true rfl) rfl ?_
  intro X hi hd hXn hXz hXf hQ
  have ww := fun k => ww1_ok (L := L) (th := th) h.1.1 k
  rcases h.1.1.2.2.2.2.2.1 with q7 | q7
  · have L45 := noon_go (A := A) (n := n) (z := z) (f0 := f0) hG hd1 hi hd hth (Or.inl ⟨q7, rfl⟩) (fun g e => by cases e) (show noonS L th S = nn1 L th none S (tn S) from if_pos q7) rfl hQ h.1.1 (tn S) 0 W A s (by omega) h (fun _ _ _ => rfl) (fun t ht => absurd ht (by omega)) (fun g e => by cases e)
    obtain ⟨w0, w1, w2, w3, w4, w5, w6, w7, -⟩ := h.2.1.ten
    obtain ⟨⟨b1, b2⟩, -⟩ := id h.1.1.1.1
    rw [q7] at w7
    refine wpC_sound (PC_ok hG _) (by rw [hi]; exact ok_X9_noon) (hd := [4, 36, 45, 81, 106]) 400 _ _ _ _ _ _ ?_
    simp only [wp, stp, List.mem_cons, List.not_mem_nil, Nat.reduceEqDiff, or_false, or_self, false_or, or_true, true_or, Nat.reduceAdd, ↓reduceIte, List.getElem?_cons_zero, List.getElem?_cons_succ, nthV, List.set_cons_zero, List.set_cons_succ, noL, popA, catS, Value.category, List.length_cons, List.length_nil, Nat.reduceLT, Nat.reduceLeDiff, true_and, and_true, one0, zer1, imp_t, imp_f, ofN_nI, sdead, f20, f21, not_true_eq_false, upC_ap, upC_upC, retC, fitC, isRefT, Option.toList_some, Option.toList_none, List.cons_append, List.nil_append, Nat.lt_add_one, Nat.zero_lt_succ, Nat.le_refl, Nat.add_zero, Nat.zero_add, Nat.one_ne_zero, Nat.zero_ne_one, Nat.lt_irrefl, List.length_set, fa_X9_noon, hi, hd, hQ, mr_X9_noon, mM_31, mM_32, mM_33, mM_34, mM_35, mM_36, mM_37, mM_38, mM_39, mM_40, mM_41, mM_42, mM_43, mM_44, mM_45, mM_46, mM_47, mM_48, mu_31, mu_32, mu_33, mu_34, mu_35, mu_36, mu_37, mu_38, mu_39, mu_40, mu_41, mu_42, mu_43, mu_44, mu_45, mu_46, mu_47, mu_48, mO_len, mg_0, mg_1, mg_2, mg_3, mg_4, mg_5, mg_6, mg_7, mg_8, mg_9, mg_10, mg_11, mg_12, mg_13, mg_14, mg_15, mg_16, mg_17, mg_18, mg_19, mg_20, mg_21, mg_22, mg_23, mg_24, mg_25, mg_26, mg_27, mg_28, mg_29, mg_30, mg_31, mg_32, mg_33, mg_34, mg_35, ms_2, ms_8, ms_9, ms_10, ms_11, ms_12, ms_13, ms_14, ms_15, ms_16, ms_17, ms_18, ms_19, ms_22, ms_23, ms_32, ms_33, ms_34, ms_35, cN_0, vN_0, cN_1, vN_1, cN_2, vN_2, cN_3, vN_3, cN_4, vN_4, cN_5, vN_5, cN_6, vN_6, cN_7, vN_7, cN_8, vN_8, cN_9, vN_9, cN_190, vN_190, wpC, stpC, PC, PV, reduceCtorEq]
    try simp only [m1f]
    try simp (disch := omega) only [nmod, nI_leI, nI_ltI, nI_eq, nI_clamp, vin_nI, nI_1, fa_lit, nI_add, nI_rm3, nI_rm2, pk_rem, pk_mul, pk_sub, pk_div, nI_eM, nI_Me, nI_pM, nI_pMz, nI_pM0, M1_lt, M1_le, nI_ltM, nI_leM, i8_nI, true_and, and_true, false_implies, true_implies, not_false_eq_true, not_true_eq_false, ne_eq, implies_true, Nat.not_lt_zero, Nat.zero_le, ite_min, max0, Nat.reduceLT, Nat.reduceLeDiff, Nat.reduceEqDiff, Nat.reduceAdd, Nat.reduceMul, Nat.add_zero, Nat.zero_add]
    try simp only [m1u]
    by_cases h0 : tn S ≤ 0
    · refine wpC_sound (PC_ok hG _) (by rw [hi]; exact ok_X9_noon) (hd := [4, 36, 45, 81, 106]) 400 _ _ _ _ _ _ ?_
      simp only [wp, stp, List.mem_cons, List.not_mem_nil, Nat.reduceEqDiff, or_false, or_self, false_or, or_true, true_or, Nat.reduceAdd, ↓reduceIte, List.getElem?_cons_zero, List.getElem?_cons_succ, nthV, List.set_cons_zero, List.set_cons_succ, noL, popA, catS, Value.category, List.length_cons, List.length_nil, Nat.reduceLT, Nat.reduceLeDiff, true_and, and_true, one0, zer1, imp_t, imp_f, ofN_nI, sdead, f20, f21, not_true_eq_false, upC_ap, upC_upC, retC, fitC, isRefT, Option.toList_some, Option.toList_none, List.cons_append, List.nil_append, Nat.lt_add_one, Nat.zero_lt_succ, Nat.le_refl, Nat.add_zero, Nat.zero_add, Nat.one_ne_zero, Nat.zero_ne_one, Nat.lt_irrefl, List.length_set, fa_X9_noon, hi, hd, hQ, mr_X9_noon, w3, b1, h0, mM_31, mM_32, mM_33, mM_34, mM_35, mM_36, mM_37, mM_38, mM_39, mM_40, mM_41, mM_42, mM_43, mM_44, mM_45, mM_46, mM_47, mM_48, mu_31, mu_32, mu_33, mu_34, mu_35, mu_36, mu_37, mu_38, mu_39, mu_40, mu_41, mu_42, mu_43, mu_44, mu_45, mu_46, mu_47, mu_48, mO_len, mg_0, mg_1, mg_2, mg_3, mg_4, mg_5, mg_6, mg_7, mg_8, mg_9, mg_10, mg_11, mg_12, mg_13, mg_14, mg_15, mg_16, mg_17, mg_18, mg_19, mg_20, mg_21, mg_22, mg_23, mg_24, mg_25, mg_26, mg_27, mg_28, mg_29, mg_30, mg_31, mg_32, mg_33, mg_34, mg_35, ms_2, ms_8, ms_9, ms_10, ms_11, ms_12, ms_13, ms_14, ms_15, ms_16, ms_17, ms_18, ms_19, ms_22, ms_23, ms_32, ms_33, ms_34, ms_35, cN_0, vN_0, cN_1, vN_1, cN_2, vN_2, cN_3, vN_3, cN_4, vN_4, cN_5, vN_5, cN_6, vN_6, cN_7, vN_7, cN_8, vN_8, cN_9, vN_9, cN_190, vN_190, wpC, stpC, PC, PV, reduceCtorEq]
      try simp only [m1f]
      try simp (disch := omega) only [nmod, nI_leI, nI_ltI, nI_eq, nI_clamp, vin_nI, nI_1, fa_lit, nI_add, nI_rm3, nI_rm2, pk_rem, pk_mul, pk_sub, pk_div, nI_eM, nI_Me, nI_pM, nI_pMz, nI_pM0, M1_lt, M1_le, nI_ltM, nI_leM, i8_nI, true_and, and_true, false_implies, true_implies, not_false_eq_true, not_true_eq_false, ne_eq, implies_true, Nat.not_lt_zero, Nat.zero_le, ite_min, max0, Nat.reduceLT, Nat.reduceLeDiff, Nat.reduceEqDiff, Nat.reduceAdd, Nat.reduceMul, Nat.add_zero, Nat.zero_add, w3, b1, h0]
      try simp only [m1u]
      exact L45 _
    · refine wpC_sound (PC_ok hG _) (by rw [hi]; exact ok_X9_noon) (hd := [4, 36, 45, 81, 106]) 400 _ _ _ _ _ _ ?_
      simp only [wp, stp, List.mem_cons, List.not_mem_nil, Nat.reduceEqDiff, or_false, or_self, false_or, or_true, true_or, Nat.reduceAdd, ↓reduceIte, List.getElem?_cons_zero, List.getElem?_cons_succ, nthV, List.set_cons_zero, List.set_cons_succ, noL, popA, catS, Value.category, List.length_cons, List.length_nil, Nat.reduceLT, Nat.reduceLeDiff, true_and, and_true, one0, zer1, imp_t, imp_f, ofN_nI, sdead, f20, f21, not_true_eq_false, upC_ap, upC_upC, retC, fitC, isRefT, Option.toList_some, Option.toList_none, List.cons_append, List.nil_append, Nat.lt_add_one, Nat.zero_lt_succ, Nat.le_refl, Nat.add_zero, Nat.zero_add, Nat.one_ne_zero, Nat.zero_ne_one, Nat.lt_irrefl, List.length_set, fa_X9_noon, hi, hd, hQ, mr_X9_noon, w3, b1, h0, w7, mM_31, mM_32, mM_33, mM_34, mM_35, mM_36, mM_37, mM_38, mM_39, mM_40, mM_41, mM_42, mM_43, mM_44, mM_45, mM_46, mM_47, mM_48, mu_31, mu_32, mu_33, mu_34, mu_35, mu_36, mu_37, mu_38, mu_39, mu_40, mu_41, mu_42, mu_43, mu_44, mu_45, mu_46, mu_47, mu_48, mO_len, mg_0, mg_1, mg_2, mg_3, mg_4, mg_5, mg_6, mg_7, mg_8, mg_9, mg_10, mg_11, mg_12, mg_13, mg_14, mg_15, mg_16, mg_17, mg_18, mg_19, mg_20, mg_21, mg_22, mg_23, mg_24, mg_25, mg_26, mg_27, mg_28, mg_29, mg_30, mg_31, mg_32, mg_33, mg_34, mg_35, ms_2, ms_8, ms_9, ms_10, ms_11, ms_12, ms_13, ms_14, ms_15, ms_16, ms_17, ms_18, ms_19, ms_22, ms_23, ms_32, ms_33, ms_34, ms_35, cN_0, vN_0, cN_1, vN_1, cN_2, vN_2, cN_3, vN_3, cN_4, vN_4, cN_5, vN_5, cN_6, vN_6, cN_7, vN_7, cN_8, vN_8, cN_9, vN_9, cN_190, vN_190, wpC, stpC, PC, PV, reduceCtorEq]
      try simp only [m1f]
      try simp (disch := omega) only [nmod, nI_leI, nI_ltI, nI_eq, nI_clamp, vin_nI, nI_1, fa_lit, nI_add, nI_rm3, nI_rm2, pk_rem, pk_mul, pk_sub, pk_div, nI_eM, nI_Me, nI_pM, nI_pMz, nI_pM0, M1_lt, M1_le, nI_ltM, nI_leM, i8_nI, true_and, and_true, false_implies, true_implies, not_false_eq_true, not_true_eq_false, ne_eq, implies_true, Nat.not_lt_zero, Nat.zero_le, ite_min, max0, Nat.reduceLT, Nat.reduceLeDiff, Nat.reduceEqDiff, Nat.reduceAdd, Nat.reduceMul, Nat.add_zero, Nat.zero_add, w3, b1, h0, w7]
      try simp only [m1u]
      exact L45 _
  · have q70 : ¬ S 0 7 = 0 := by rw [q7]; decide
    have loop : ∀ j k W A' s, k + j = tn S → HV (ww1 L th S k).1 L I W s → (∀ j, ¬ j = 41 → ¬ j = 42 → A' j = A j) → (∀ t, t < k → A' 41 t = (match (ww1 L th S k).2 t with | some c => nI c | none => S 2 t) ∧ ∀ c, (ww1 L th S k).2 t = some c → ¬ nI c = S 2 t) → ∀ u4, V G X 4 [.ref 31, .int th, .int (nI 0), .int (nI k), u4] [] n z (mM f0 I W A' s) := by
      intro j
      induction j with
      | zero =>
        intro k W A' s hk hH hA h41 u4
        have : k = tn S := by omega
        subst this
        obtain ⟨v1, v2, v3⟩ := ww (tn S)
        obtain ⟨w0, w1, w2, w3, w4, w5, w6, w7, -⟩ := hH.2.1.ten
        obtain ⟨⟨b1, b2⟩, -⟩ := id hH.1.1.1.1
        rw [v2.etn] at b1 b2
        have L45 := noon_go (A := A) (n := n) (z := z) (f0 := f0) (S := S) (S1 := (ww1 L th S (tn S)).1) (wl := some (ww1 L th S (tn S)).2) hG hd1 hi hd hth (Or.inr ⟨(v2.1 7 (by omega)).trans q7, _, rfl, fun t c ht e => ⟨v3 t c e, by rw [ww1_2]; exact (h41 t (by rw [v2.etn] at ht; omega)).2 c e⟩⟩) (fun g e => by cases e; exact v3) (by rw [v2.etn]; exact if_neg q70) v2.etn hQ v1 (tn S) 0 W A' s (by rw [v2.etn]; omega) hH hA (fun t ht => absurd ht (by omega)) (fun g e t ht => by cases e; rw [ww1_2]; rw [v2.etn] at ht; exact (h41 t ht).1)
        refine wpC_sound (PC_ok hG _) (by rw [hi]; exact ok_X9_noon) (hd := [4, 36, 45, 81, 106]) 400 _ _ _ _ _ _ ?_
        simp only [wp, stp, List.mem_cons, List.not_mem_nil, Nat.reduceEqDiff, or_false, or_self, false_or, or_true, true_or, Nat.reduceAdd, ↓reduceIte, List.getElem?_cons_zero, List.getElem?_cons_succ, nthV, List.set_cons_zero, List.set_cons_succ, noL, popA, catS, Value.category, List.length_cons, List.length_nil, Nat.reduceLT, Nat.reduceLeDiff, true_and, and_true, one0, zer1, imp_t, imp_f, ofN_nI, sdead, f20, f21, not_true_eq_false, upC_ap, upC_upC, retC, fitC, isRefT, Option.toList_some, Option.toList_none, List.cons_append, List.nil_append, Nat.lt_add_one, Nat.zero_lt_succ, Nat.le_refl, Nat.add_zero, Nat.zero_add, Nat.one_ne_zero, Nat.zero_ne_one, Nat.lt_irrefl, List.length_set, fa_X9_noon, hi, hd, hQ, mr_X9_noon, w3, b1, mM_31, mM_32, mM_33, mM_34, mM_35, mM_36, mM_37, mM_38, mM_39, mM_40, mM_41, mM_42, mM_43, mM_44, mM_45, mM_46, mM_47, mM_48, mu_31, mu_32, mu_33, mu_34, mu_35, mu_36, mu_37, mu_38, mu_39, mu_40, mu_41, mu_42, mu_43, mu_44, mu_45, mu_46, mu_47, mu_48, mO_len, mg_0, mg_1, mg_2, mg_3, mg_4, mg_5, mg_6, mg_7, mg_8, mg_9, mg_10, mg_11, mg_12, mg_13, mg_14, mg_15, mg_16, mg_17, mg_18, mg_19, mg_20, mg_21, mg_22, mg_23, mg_24, mg_25, mg_26, mg_27, mg_28, mg_29, mg_30, mg_31, mg_32, mg_33, mg_34, mg_35, ms_2, ms_8, ms_9, ms_10, ms_11, ms_12, ms_13, ms_14, ms_15, ms_16, ms_17, ms_18, ms_19, ms_22, ms_23, ms_32, ms_33, ms_34, ms_35, cN_0, vN_0, cN_1, vN_1, cN_2, vN_2, cN_3, vN_3, cN_4, vN_4, cN_5, vN_5, cN_6, vN_6, cN_7, vN_7, cN_8, vN_8, cN_9, vN_9, cN_190, vN_190, wpC, stpC, PC, PV, reduceCtorEq]
        try simp only [m1f]
        try simp (disch := omega) only [nmod, nI_leI, nI_ltI, nI_eq, nI_clamp, vin_nI, nI_1, fa_lit, nI_add, nI_rm3, nI_rm2, pk_rem, pk_mul, pk_sub, pk_div, nI_eM, nI_Me, nI_pM, nI_pMz, nI_pM0, M1_lt, M1_le, nI_ltM, nI_leM, i8_nI, true_and, and_true, false_implies, true_implies, not_false_eq_true, not_true_eq_false, ne_eq, implies_true, Nat.not_lt_zero, Nat.zero_le, ite_min, max0, Nat.reduceLT, Nat.reduceLeDiff, Nat.reduceEqDiff, Nat.reduceAdd, Nat.reduceMul, Nat.add_zero, Nat.zero_add, w3, b1]
        try simp only [m1u]
        exact ⟨fun _ => L45 _, fun q => absurd (Nat.le_refl _) q⟩
      | succ j ih =>
        intro k W A' s hk hH hA h41 u4
        obtain ⟨v1, v2, v3⟩ := ww k
        obtain ⟨w0, w1, w2, w3, w4, w5, w6, w7, -⟩ := hH.2.1.ten
        obtain ⟨⟨b1, b2⟩, -⟩ := id hH.1.1.1.1
        rw [v2.etn] at b1 b2
        have htk : k < tn (ww1 L th S k).1 := by rw [v2.etn]; omega
        have hkk : ¬ tn S ≤ k := by omega
        have e7 := (v2.1 7 (by omega)).trans q7
        refine wpC_sound (PC_ok hG _) (by rw [hi]; exact ok_X9_noon) (hd := [4, 36, 45, 81, 106]) 400 _ _ _ _ _ _ ?_
        simp only [wp, stp, List.mem_cons, List.not_mem_nil, Nat.reduceEqDiff, or_false, or_self, false_or, or_true, true_or, Nat.reduceAdd, ↓reduceIte, List.getElem?_cons_zero, List.getElem?_cons_succ, nthV, List.set_cons_zero, List.set_cons_succ, noL, popA, catS, Value.category, List.length_cons, List.length_nil, Nat.reduceLT, Nat.reduceLeDiff, true_and, and_true, one0, zer1, imp_t, imp_f, ofN_nI, sdead, f20, f21, not_true_eq_false, upC_ap, upC_upC, retC, fitC, isRefT, Option.toList_some, Option.toList_none, List.cons_append, List.nil_append, Nat.lt_add_one, Nat.zero_lt_succ, Nat.le_refl, Nat.add_zero, Nat.zero_add, Nat.one_ne_zero, Nat.zero_ne_one, Nat.lt_irrefl, List.length_set, fa_X9_noon, hi, hd, hQ, mr_X9_noon, w3, b1, hkk, w7, e7, mM_31, mM_32, mM_33, mM_34, mM_35, mM_36, mM_37, mM_38, mM_39, mM_40, mM_41, mM_42, mM_43, mM_44, mM_45, mM_46, mM_47, mM_48, mu_31, mu_32, mu_33, mu_34, mu_35, mu_36, mu_37, mu_38, mu_39, mu_40, mu_41, mu_42, mu_43, mu_44, mu_45, mu_46, mu_47, mu_48, mO_len, mg_0, mg_1, mg_2, mg_3, mg_4, mg_5, mg_6, mg_7, mg_8, mg_9, mg_10, mg_11, mg_12, mg_13, mg_14, mg_15, mg_16, mg_17, mg_18, mg_19, mg_20, mg_21, mg_22, mg_23, mg_24, mg_25, mg_26, mg_27, mg_28, mg_29, mg_30, mg_31, mg_32, mg_33, mg_34, mg_35, ms_2, ms_8, ms_9, ms_10, ms_11, ms_12, ms_13, ms_14, ms_15, ms_16, ms_17, ms_18, ms_19, ms_22, ms_23, ms_32, ms_33, ms_34, ms_35, cN_0, vN_0, cN_1, vN_1, cN_2, vN_2, cN_3, vN_3, cN_4, vN_4, cN_5, vN_5, cN_6, vN_6, cN_7, vN_7, cN_8, vN_8, cN_9, vN_9, cN_190, vN_190, wpC, stpC, PC, PV, reduceCtorEq]
        try simp only [m1f]
        try simp (disch := omega) only [nmod, nI_leI, nI_ltI, nI_eq, nI_clamp, vin_nI, nI_1, fa_lit, nI_add, nI_rm3, nI_rm2, pk_rem, pk_mul, pk_sub, pk_div, nI_eM, nI_Me, nI_pM, nI_pMz, nI_pM0, M1_lt, M1_le, nI_ltM, nI_leM, i8_nI, true_and, and_true, false_implies, true_implies, not_false_eq_true, not_true_eq_false, ne_eq, implies_true, Nat.not_lt_zero, Nat.zero_le, ite_min, max0, Nat.reduceLT, Nat.reduceLeDiff, Nat.reduceEqDiff, Nat.reduceAdd, Nat.reduceMul, Nat.add_zero, Nat.zero_add, w3, b1, hkk, w7, e7]
        try simp only [m1u]
        refine ⟨by omega, _, t9_chosen hG (by omega) rfl hH.1.1 hH.hb hH.2.2.1 hH.2.2.2.1 htk hth, ?_⟩
        rintro v n1 z1 f1 ⟨rfl, rfl, rfl, s', rfl, hs'⟩
        refine wpC_sound (PC_ok hG _) (by rw [hi]; exact ok_X9_noon) (hd := [4, 36, 45, 81, 106]) 400 _ _ _ _ _ _ ?_
        simp only [wp, stp, List.mem_cons, List.not_mem_nil, Nat.reduceEqDiff, or_false, or_self, false_or, or_true, true_or, Nat.reduceAdd, ↓reduceIte, List.getElem?_cons_zero, List.getElem?_cons_succ, nthV, List.set_cons_zero, List.set_cons_succ, noL, popA, catS, Value.category, List.length_cons, List.length_nil, Nat.reduceLT, Nat.reduceLeDiff, true_and, and_true, one0, zer1, imp_t, imp_f, ofN_nI, sdead, f20, f21, not_true_eq_false, upC_ap, upC_upC, retC, fitC, isRefT, Option.toList_some, Option.toList_none, List.cons_append, List.nil_append, Nat.lt_add_one, Nat.zero_lt_succ, Nat.le_refl, Nat.add_zero, Nat.zero_add, Nat.one_ne_zero, Nat.zero_ne_one, Nat.lt_irrefl, List.length_set, fa_X9_noon, hi, hd, hQ, mr_X9_noon, mM_31, mM_32, mM_33, mM_34, mM_35, mM_36, mM_37, mM_38, mM_39, mM_40, mM_41, mM_42, mM_43, mM_44, mM_45, mM_46, mM_47, mM_48, mu_31, mu_32, mu_33, mu_34, mu_35, mu_36, mu_37, mu_38, mu_39, mu_40, mu_41, mu_42, mu_43, mu_44, mu_45, mu_46, mu_47, mu_48, mO_len, mg_0, mg_1, mg_2, mg_3, mg_4, mg_5, mg_6, mg_7, mg_8, mg_9, mg_10, mg_11, mg_12, mg_13, mg_14, mg_15, mg_16, mg_17, mg_18, mg_19, mg_20, mg_21, mg_22, mg_23, mg_24, mg_25, mg_26, mg_27, mg_28, mg_29, mg_30, mg_31, mg_32, mg_33, mg_34, mg_35, ms_2, ms_8, ms_9, ms_10, ms_11, ms_12, ms_13, ms_14, ms_15, ms_16, ms_17, ms_18, ms_19, ms_22, ms_23, ms_32, ms_33, ms_34, ms_35, cN_0, vN_0, cN_1, vN_1, cN_2, vN_2, cN_3, vN_3, cN_4, vN_4, cN_5, vN_5, cN_6, vN_6, cN_7, vN_7, cN_8, vN_8, cN_9, vN_9, cN_190, vN_190, wpC, stpC, PC, PV, reduceCtorEq]
        try simp only [m1f]
        try simp (disch := omega) only [nmod, nI_leI, nI_ltI, nI_eq, nI_clamp, vin_nI, nI_1, fa_lit, nI_add, nI_rm3, nI_rm2, pk_rem, pk_mul, pk_sub, pk_div, nI_eM, nI_Me, nI_pM, nI_pMz, nI_pM0, M1_lt, M1_le, nI_ltM, nI_leM, i8_nI, true_and, and_true, false_implies, true_implies, not_false_eq_true, not_true_eq_false, ne_eq, implies_true, Nat.not_lt_zero, Nat.zero_le, ite_min, max0, Nat.reduceLT, Nat.reduceLeDiff, Nat.reduceEqDiff, Nat.reduceAdd, Nat.reduceMul, Nat.add_zero, Nat.zero_add]
        try simp only [m1u]
        refine ⟨by omega, ih (k + 1) _ _ _ (by omega) (hH.dr _ hs') (fun j a b => by unfold upA; rw [if_neg a]; exact hA j a b) (fun t ht => ?_) _⟩
        have es : (ww1 L th S (k + 1)).2 t = if t = k then wishS (ww1 L th S k).1 L th k else (ww1 L th S k).2 t := rfl
        rw [es]
        unfold upA
        rw [if_pos rfl, upd_ap]
        by_cases q : t = k
        · rw [if_pos q, if_pos q, q]
          have e2 := congrFun (ww1_2 (L := L) (S := S) (th := th) k) k
          refine ⟨?_, fun c hc => by rw [← e2]; exact wishS_ne hH.1.1 htk hc⟩
          unfold chV
          rw [e2]
          cases wishS (ww1 L th S k).1 L th k <;> rfl
        · rw [if_neg q, if_neg q]; exact h41 t (by omega)
    refine wpC_sound (PC_ok hG _) (by rw [hi]; exact ok_X9_noon) (hd := [4, 36, 45, 81, 106]) 400 _ _ _ _ _ _ ?_
    simp only [wp, stp, List.mem_cons, List.not_mem_nil, Nat.reduceEqDiff, or_false, or_self, false_or, or_true, true_or, Nat.reduceAdd, ↓reduceIte, List.getElem?_cons_zero, List.getElem?_cons_succ, nthV, List.set_cons_zero, List.set_cons_succ, noL, popA, catS, Value.category, List.length_cons, List.length_nil, Nat.reduceLT, Nat.reduceLeDiff, true_and, and_true, one0, zer1, imp_t, imp_f, ofN_nI, sdead, f20, f21, not_true_eq_false, upC_ap, upC_upC, retC, fitC, isRefT, Option.toList_some, Option.toList_none, List.cons_append, List.nil_append, Nat.lt_add_one, Nat.zero_lt_succ, Nat.le_refl, Nat.add_zero, Nat.zero_add, Nat.one_ne_zero, Nat.zero_ne_one, Nat.lt_irrefl, List.length_set, fa_X9_noon, hi, hd, hQ, mr_X9_noon, mM_31, mM_32, mM_33, mM_34, mM_35, mM_36, mM_37, mM_38, mM_39, mM_40, mM_41, mM_42, mM_43, mM_44, mM_45, mM_46, mM_47, mM_48, mu_31, mu_32, mu_33, mu_34, mu_35, mu_36, mu_37, mu_38, mu_39, mu_40, mu_41, mu_42, mu_43, mu_44, mu_45, mu_46, mu_47, mu_48, mO_len, mg_0, mg_1, mg_2, mg_3, mg_4, mg_5, mg_6, mg_7, mg_8, mg_9, mg_10, mg_11, mg_12, mg_13, mg_14, mg_15, mg_16, mg_17, mg_18, mg_19, mg_20, mg_21, mg_22, mg_23, mg_24, mg_25, mg_26, mg_27, mg_28, mg_29, mg_30, mg_31, mg_32, mg_33, mg_34, mg_35, ms_2, ms_8, ms_9, ms_10, ms_11, ms_12, ms_13, ms_14, ms_15, ms_16, ms_17, ms_18, ms_19, ms_22, ms_23, ms_32, ms_33, ms_34, ms_35, cN_0, vN_0, cN_1, vN_1, cN_2, vN_2, cN_3, vN_3, cN_4, vN_4, cN_5, vN_5, cN_6, vN_6, cN_7, vN_7, cN_8, vN_8, cN_9, vN_9, cN_190, vN_190, wpC, stpC, PC, PV, reduceCtorEq]
    try simp only [m1f]
    try simp (disch := omega) only [nmod, nI_leI, nI_ltI, nI_eq, nI_clamp, vin_nI, nI_1, fa_lit, nI_add, nI_rm3, nI_rm2, pk_rem, pk_mul, pk_sub, pk_div, nI_eM, nI_Me, nI_pM, nI_pMz, nI_pM0, M1_lt, M1_le, nI_ltM, nI_leM, i8_nI, true_and, and_true, false_implies, true_implies, not_false_eq_true, not_true_eq_false, ne_eq, implies_true, Nat.not_lt_zero, Nat.zero_le, ite_min, max0, Nat.reduceLT, Nat.reduceLeDiff, Nat.reduceEqDiff, Nat.reduceAdd, Nat.reduceMul, Nat.add_zero, Nat.zero_add]
    try simp only [m1u]
    exact loop (tn S) 0 W A s (by omega) h (fun _ _ _ => rfl) (fun t ht => absurd ht (by omega)) _
end M9s
