-- the reference's reader: a line
set_option maxRecDepth 100000
set_option maxHeartbeats 4000000
section Mus
variable {G : Gam} {d n z len T sl sl0 k c : Nat} {f f0 : Mf} {I W : Nat → Int32} {A : Nat → Nat → Int32} {s : Sc} {tb : Nat → Nat}
/-- a line laid: where it begins, where its condition, where it ends -/
def LnA (a34 a35 : Nat → Int32) (l b m t : Nat) (ln : EV × Option BV) : Prop := (b ≤ m ∧ m ≤ t) ∧ (a34 (3 * l) = nI b ∧ a34 (3 * l + 1) = nI m ∧ a34 (3 * l + 2) = nI t) ∧ reE a35 b m ln.1 ∧ (match ln.2 with | none => m = t | some c => m < t ∧ reB a35 m t c)
/-- how the reading of a line ends -/
def RlQ (tb : Nat → Nat) (len T n z : Nat) (f0 : Mf) (I W : Nat → Int32) (A : Nat → Nat → Int32) (s : Sc) (c l : Nat) (r : Res (EV × Option BV)) : Po := fun v n' z' f' => n' = n ∧ z' = z ∧ ∃ I' A', f' = mM f0 I' W A' s ∧ (∀ j, ¬ j = 35 → ¬ j = 34 → A' j = A j) ∧ (∀ j, j < 2 * c → A' 35 j = A 35 j) ∧ (∀ j, j < 3 * l → A' 34 j = A 34 j) ∧ match r with
  | .inl (why, j) => v = some (.int 0) ∧ (∀ i, (i < 9 ∨ i = 10 ∨ i = 17 ∨ 18 < i) → I' i = I i) ∧ I' 15 = nI why ∧ I' 16 = nI (sqT tb len j)
  | .inr (k', ln) => v = some (.int 1) ∧ (∀ i, ¬ (i = 9 ∨ (11 ≤ i ∧ i ≤ 14) ∨ i = 18) → I' i = I i) ∧ ∃ m t, PZ tb len T 0 I' A' k' t ∧ c ≤ m ∧ LnA (A' 34) (A' 35) l c m t ln
/-- the rest of a reading, where something else was written before -/
theorem RpQ.ln {α : Type} {beh : (Nat → Int32) → Nat → Nat → α → Prop} {I0 : Nat → Int32} {A0 : Nat → Nat → Int32} {c0 l : Nat} {r : Res α} {r0 : Res (EV × Option BV)} {v : Option Value} {n' z' : Nat} {f' : Mf} (hc : c0 ≤ c) (hI : ∀ i, (i < 9 ∨ i = 10 ∨ i = 17 ∨ 18 < i) → I i = I0 i) (hA : ∀ j, ¬ j = 35 → ¬ j = 34 → A j = A0 j) (hA5 : ∀ j, j < 2 * c0 → A 35 j = A0 35 j) (hA4 : ∀ j, j < 3 * l → A 34 j = A0 34 j) (h : RpQ beh tb len T sl0 n z f0 I W A s c r v n' z' f') {e : Nat × Nat} (hr : r = .inl e) (hr0 : r0 = .inl e) : RlQ tb len T n z f0 I0 W A0 s c0 l r0 v n' z' f' := by
  subst hr hr0
  obtain ⟨rfl, rfl, I', A', rfl, a1, a2, a3, a4, a5⟩ := h
  exact ⟨rfl, rfl, I', A', rfl, fun j hj h4 => (a1 j hj).trans (hA j hj h4), fun j hj => (a2 j (by omega)).trans (hA5 j hj), fun j hj => by rw [a1 34 (by omega)]; exact hA4 j hj, a3, fun i hi => (a4 i hi).trans (hI i hi), a5⟩
theorem RlQ.bad {I0 : Nat → Int32} {A0 : Nat → Nat → Int32} {c0 l why : Nat} (h : PI9 tb len I k) (hI : ∀ i, (i < 9 ∨ i = 10 ∨ i = 17 ∨ 18 < i) → I i = I0 i) (hA : ∀ j, ¬ j = 35 → ¬ j = 34 → A j = A0 j) (hA5 : ∀ j, j < 2 * c0 → A 35 j = A0 35 j) (hA4 : ∀ j, j < 3 * l → A 34 j = A0 34 j) {r : Res (EV × Option BV)} (hr : r = .inl (why, k)) : RlQ tb len T n z f0 I0 W A0 s c0 l r (some (.int 0)) n z (mM f0 (upd (upd I 15 (nI why)) 16 (I 13)) W A s) := by
  subst hr
  refine ⟨rfl, rfl, _, A, rfl, hA, hA5, hA4, rfl, fun i hi => ?_, ?_, ?_⟩
  · rw [upd_ap, if_neg (by omega), upd_ap, if_neg (by omega)]; exact hI i hi
  · rw [upd_ap, if_neg (by omega), upd_ap, if_pos rfl]
  · rw [upd_ap, if_pos rfl]; exact h.2.1
theorem reB.lt {a : Nat → Int32} {c0 c1 : Nat} {b : BV} (h : reB a c0 c1 b) (hc : c0 ≤ c1) : c0 < c1 := by
  rcases Nat.lt_or_ge c0 c1 with q | q
  · exact q
  · have : c1 = c0 := by omega
    subst this
    have := h (fun _ => 0) []
    rw [Nat.sub_self, rnR] at this
    cases this
theorem t9_aLine (hG : Ok G) (hd1 : 40 ≤ d) (hH : HR tb len T f0 I A) (h : PZ tb len T 0 I A k c) {l : Nat} (hl : l ≤ 16) (h8 : I 8 = nI l) : Tr G d 165 [.ref 31] n z (mM f0 I W A s) (RlQ tb len T n z f0 I W A s c l (if tK tb len k = 260 then (if l = 16 then .inl (3, k) else pLn (tK tb len) (tV tb len) k) else .inl (1, k))) := by
  obtain ⟨hp, h9, ⟨hck, hkT⟩, hSt⟩ := id h
  have hT4 := hH.1.1
  obtain ⟨R1, r1, r2, r3, r4, r5, r6⟩ := hp.tok hH.1 hkT
  have kw := (tkR_kw r5).2.2.2.2.1
  rw [← r3] at kw
  obtain ⟨K, hK⟩ : ∃ K, K = tK tb len := ⟨_, rfl⟩
  obtain ⟨U, hU⟩ : ∃ U, U = tV tb len := ⟨_, rfl⟩
  have hTk : TkS K U T := by rw [hK, hU]; exact hH.1
  rw [← hK] at kw r6
  obtain ⟨R, hR⟩ : ∃ R, R = (if tK tb len k = 260 then (if l = 16 then .inl (3, k) else pLn (tK tb len) (tV tb len) k) else (.inl (1, k) : Res (EV × Option BV))) := ⟨_, rfl⟩
  rw [← hR]
  rw [← hK, ← hU] at hR
  refine Tr.of2 (ls0 := [.ref 31]) hG mo_X9_aLine (Nat.le_of_ble_eq_true rfl) rfl ?_
  intro X hi hd hXn hXz hXf hQ
  by_cases q : K k = 260
  · rw [if_pos q] at hR
    obtain ⟨hkT', -⟩ := r6 (by omega)
    have m20 : I 12 = nI 20 := by rw [r1, kw.mpr q]
    by_cases ql : l = 16
    · rw [if_pos ql] at hR
      have m16 : I 8 = nI 16 := by rw [h8, ql]
      refine wp_sound (by rw [hi]; exact ok_X9_aLine) (hd := [14, 29, 39, 58, 92, 96, 125]) 400 _ _ _ _ _ _ ?_
      simp only [wp, stp, List.mem_cons, List.not_mem_nil, Nat.reduceEqDiff, or_false, or_self, false_or, or_true, true_or, Nat.reduceAdd, ↓reduceIte, List.getElem?_cons_zero, List.getElem?_cons_succ, nthV, List.set_cons_zero, List.set_cons_succ, noL, popA, catS, Value.category, List.length_cons, List.length_nil, Nat.reduceLT, Nat.reduceLeDiff, true_and, and_true, one0, zer1, imp_t, imp_f, ofN_nI, sdead, f20, f21, not_true_eq_false, upC_ap, upC_upC, retC, fitC, isRefT, Option.toList_some, Option.toList_none, List.cons_append, List.nil_append, Nat.lt_add_one, Nat.zero_lt_succ, Nat.le_refl, Nat.add_zero, Nat.zero_add, Nat.one_ne_zero, Nat.zero_ne_one, Nat.lt_irrefl, List.length_set, fa_X9_aLine, hi, hd, hQ, mr_X9_aLine, m20, m16, mM_31, mM_32, mM_33, mM_34, mM_35, mM_36, mM_37, mM_38, mM_39, mM_40, mM_41, mM_42, mM_43, mM_44, mM_45, mM_46, mM_47, mM_48, mu_31, mu_32, mu_33, mu_34, mu_35, mu_36, mu_37, mu_38, mu_39, mu_40, mu_41, mu_42, mu_43, mu_44, mu_45, mu_46, mu_47, mu_48, mO_len, mg_0, mg_1, mg_2, mg_3, mg_4, mg_5, mg_6, mg_7, mg_8, mg_9, mg_10, mg_11, mg_12, mg_13, mg_14, mg_15, mg_16, mg_17, mg_18, mg_19, mg_20, mg_21, mg_22, mg_23, mg_24, mg_25, mg_26, mg_27, mg_28, mg_29, mg_30, mg_31, mg_32, mg_33, mg_34, mg_35, ms_2, ms_8, ms_9, ms_10, ms_11, ms_12, ms_13, ms_14, ms_15, ms_16, ms_17, ms_18, ms_19, ms_22, ms_23, ms_32, ms_33, ms_34, ms_35, cN_0, vN_0, cN_1, vN_1, cN_2, vN_2, cN_3, vN_3, cN_4, vN_4, cN_5, vN_5, cN_6, vN_6, cN_7, vN_7, cN_8, vN_8, cN_9, vN_9, cN_190, vN_190]
      try simp only [m1f]
      try simp (disch := omega) only [nmod, nI_leI, nI_ltI, nI_eq, nI_clamp, vin_nI, nI_1, fa_lit, nI_add, nI_rm3, nI_rm2, pk_rem, pk_mul, pk_sub, pk_div, nI_eM, nI_Me, nI_pM, nI_pMz, nI_pM0, M1_lt, M1_le, nI_ltM, nI_leM, i8_nI, true_and, and_true, false_implies, true_implies, not_false_eq_true, not_true_eq_false, ne_eq, implies_true, Nat.not_lt_zero, Nat.zero_le, ite_min, max0, Nat.reduceLT, Nat.reduceLeDiff, Nat.reduceEqDiff, Nat.reduceAdd, Nat.reduceMul]
      try simp only [m1u]
      refine ⟨by omega, _, t9_bad hG (nI 3), ?_⟩
      rintro v n1 z1 f1 ⟨rfl, rfl, rfl, rfl⟩
      refine wp_sound (by rw [hi]; exact ok_X9_aLine) (hd := [14, 29, 39, 58, 92, 96, 125]) 400 _ _ _ _ _ _ ?_
      simp only [wp, stp, List.mem_cons, List.not_mem_nil, Nat.reduceEqDiff, or_false, or_self, false_or, or_true, true_or, Nat.reduceAdd, ↓reduceIte, List.getElem?_cons_zero, List.getElem?_cons_succ, nthV, List.set_cons_zero, List.set_cons_succ, noL, popA, catS, Value.category, List.length_cons, List.length_nil, Nat.reduceLT, Nat.reduceLeDiff, true_and, and_true, one0, zer1, imp_t, imp_f, ofN_nI, sdead, f20, f21, not_true_eq_false, upC_ap, upC_upC, retC, fitC, isRefT, Option.toList_some, Option.toList_none, List.cons_append, List.nil_append, Nat.lt_add_one, Nat.zero_lt_succ, Nat.le_refl, Nat.add_zero, Nat.zero_add, Nat.one_ne_zero, Nat.zero_ne_one, Nat.lt_irrefl, List.length_set, fa_X9_aLine, hi, hd, hQ, mr_X9_aLine, mM_31, mM_32, mM_33, mM_34, mM_35, mM_36, mM_37, mM_38, mM_39, mM_40, mM_41, mM_42, mM_43, mM_44, mM_45, mM_46, mM_47, mM_48, mu_31, mu_32, mu_33, mu_34, mu_35, mu_36, mu_37, mu_38, mu_39, mu_40, mu_41, mu_42, mu_43, mu_44, mu_45, mu_46, mu_47, mu_48, mO_len, mg_0, mg_1, mg_2, mg_3, mg_4, mg_5, mg_6, mg_7, mg_8, mg_9, mg_10, mg_11, mg_12, mg_13, mg_14, mg_15, mg_16, mg_17, mg_18, mg_19, mg_20, mg_21, mg_22, mg_23, mg_24, mg_25, mg_26, mg_27, mg_28, mg_29, mg_30, mg_31, mg_32, mg_33, mg_34, mg_35, ms_2, ms_8, ms_9, ms_10, ms_11, ms_12, ms_13, ms_14, ms_15, ms_16, ms_17, ms_18, ms_19, ms_22, ms_23, ms_32, ms_33, ms_34, ms_35, cN_0, vN_0, cN_1, vN_1, cN_2, vN_2, cN_3, vN_3, cN_4, vN_4, cN_5, vN_5, cN_6, vN_6, cN_7, vN_7, cN_8, vN_8, cN_9, vN_9, cN_190, vN_190]
      exact RlQ.bad hp (fun _ _ => rfl) (fun _ _ _ => rfl) (fun _ _ => rfl) (fun _ _ => rfl) hR
    · rw [if_neg ql] at hR
      unfold pLn at hR
      have hPI : PI9 tb len (upd I 18 (nI 0)) k := hp.i9 (fun i hi => by rw [upd_ap, if_neg (by omega)])
      have hH2 : HR tb len T f0 (upd I 18 (nI 0)) A := hH.cg (by rw [upd_ap, if_neg (by omega)]) rfl
      refine wp_sound (by rw [hi]; exact ok_X9_aLine) (hd := [14, 29, 39, 58, 92, 96, 125]) 400 _ _ _ _ _ _ ?_
      simp only [wp, stp, List.mem_cons, List.not_mem_nil, Nat.reduceEqDiff, or_false, or_self, false_or, or_true, true_or, Nat.reduceAdd, ↓reduceIte, List.getElem?_cons_zero, List.getElem?_cons_succ, nthV, List.set_cons_zero, List.set_cons_succ, noL, popA, catS, Value.category, List.length_cons, List.length_nil, Nat.reduceLT, Nat.reduceLeDiff, true_and, and_true, one0, zer1, imp_t, imp_f, ofN_nI, sdead, f20, f21, not_true_eq_false, upC_ap, upC_upC, retC, fitC, isRefT, Option.toList_some, Option.toList_none, List.cons_append, List.nil_append, Nat.lt_add_one, Nat.zero_lt_succ, Nat.le_refl, Nat.add_zero, Nat.zero_add, Nat.one_ne_zero, Nat.zero_ne_one, Nat.lt_irrefl, List.length_set, fa_X9_aLine, hi, hd, hQ, mr_X9_aLine, m20, h8, ql, mM_31, mM_32, mM_33, mM_34, mM_35, mM_36, mM_37, mM_38, mM_39, mM_40, mM_41, mM_42, mM_43, mM_44, mM_45, mM_46, mM_47, mM_48, mu_31, mu_32, mu_33, mu_34, mu_35, mu_36, mu_37, mu_38, mu_39, mu_40, mu_41, mu_42, mu_43, mu_44, mu_45, mu_46, mu_47, mu_48, mO_len, mg_0, mg_1, mg_2, mg_3, mg_4, mg_5, mg_6, mg_7, mg_8, mg_9, mg_10, mg_11, mg_12, mg_13, mg_14, mg_15, mg_16, mg_17, mg_18, mg_19, mg_20, mg_21, mg_22, mg_23, mg_24, mg_25, mg_26, mg_27, mg_28, mg_29, mg_30, mg_31, mg_32, mg_33, mg_34, mg_35, ms_2, ms_8, ms_9, ms_10, ms_11, ms_12, ms_13, ms_14, ms_15, ms_16, ms_17, ms_18, ms_19, ms_22, ms_23, ms_32, ms_33, ms_34, ms_35, cN_0, vN_0, cN_1, vN_1, cN_2, vN_2, cN_3, vN_3, cN_4, vN_4, cN_5, vN_5, cN_6, vN_6, cN_7, vN_7, cN_8, vN_8, cN_9, vN_9, cN_190, vN_190]
      try simp only [m1f]
      try simp (disch := omega) only [nmod, nI_leI, nI_ltI, nI_eq, nI_clamp, vin_nI, nI_1, fa_lit, nI_add, nI_rm3, nI_rm2, pk_rem, pk_mul, pk_sub, pk_div, nI_eM, nI_Me, nI_pM, nI_pMz, nI_pM0, M1_lt, M1_le, nI_ltM, nI_leM, i8_nI, true_and, and_true, false_implies, true_implies, not_false_eq_true, not_true_eq_false, ne_eq, implies_true, Nat.not_lt_zero, Nat.zero_le, ite_min, max0, Nat.reduceLT, Nat.reduceLeDiff, Nat.reduceEqDiff, Nat.reduceAdd, Nat.reduceMul]
      try simp only [m1u]
      refine ⟨fun _ => ⟨by omega, _, t9_nx hG (by omega) hH2 hPI, ?_⟩, fun r => absurd r ql⟩
      rintro v n1 z1 f1 ⟨rfl, rfl, rfl, I2, rfl, e1, e2, gH2⟩
      have i28 : I2 8 = nI l := by rw [e1 8 (by omega), upd_ap, if_neg (by omega)]; exact h8
      have i29 : I2 9 = nI c := by rw [e1 9 (by omega), upd_ap, if_neg (by omega)]; exact h9
      have i2o : ∀ i, ¬ (11 ≤ i ∧ i ≤ 14) → ¬ i = 18 → I2 i = I i := fun i a b => by rw [e1 i a, upd_ap, if_neg b]
      obtain ⟨A2, hA2⟩ : ∃ A2, A2 = upA A 34 (upd (A 34) (3 * l) (nI c)) := ⟨_, rfl⟩
      have a2o : ∀ j, ¬ j = 34 → A2 j = A j := fun j hj => by rw [hA2]; exact if_neg hj
      have a24 : A2 34 = upd (A 34) (3 * l) (nI c) := by rw [hA2]; exact if_pos rfl
      have gH3 : HR tb len T f0 I2 A2 := gH2.cg rfl (a2o 36 (by omega))
      have hPZ2 : PZ tb len T 1 I2 A2 (k + 1) c := ⟨e2, i29, by omega, by rw [a2o 35 (by omega)]; exact hSt⟩
      refine wp_sound (by rw [hi]; exact ok_X9_aLine) (hd := [14, 29, 39, 58, 92, 96, 125]) 400 _ _ _ _ _ _ ?_
      simp only [wp, stp, List.mem_cons, List.not_mem_nil, Nat.reduceEqDiff, or_false, or_self, false_or, or_true, true_or, Nat.reduceAdd, ↓reduceIte, List.getElem?_cons_zero, List.getElem?_cons_succ, nthV, List.set_cons_zero, List.set_cons_succ, noL, popA, catS, Value.category, List.length_cons, List.length_nil, Nat.reduceLT, Nat.reduceLeDiff, true_and, and_true, one0, zer1, imp_t, imp_f, ofN_nI, sdead, f20, f21, not_true_eq_false, upC_ap, upC_upC, retC, fitC, isRefT, Option.toList_some, Option.toList_none, List.cons_append, List.nil_append, Nat.lt_add_one, Nat.zero_lt_succ, Nat.le_refl, Nat.add_zero, Nat.zero_add, Nat.one_ne_zero, Nat.zero_ne_one, Nat.lt_irrefl, List.length_set, fa_X9_aLine, hi, hd, hQ, mr_X9_aLine, i28, i29, mM_31, mM_32, mM_33, mM_34, mM_35, mM_36, mM_37, mM_38, mM_39, mM_40, mM_41, mM_42, mM_43, mM_44, mM_45, mM_46, mM_47, mM_48, mu_31, mu_32, mu_33, mu_34, mu_35, mu_36, mu_37, mu_38, mu_39, mu_40, mu_41, mu_42, mu_43, mu_44, mu_45, mu_46, mu_47, mu_48, mO_len, mg_0, mg_1, mg_2, mg_3, mg_4, mg_5, mg_6, mg_7, mg_8, mg_9, mg_10, mg_11, mg_12, mg_13, mg_14, mg_15, mg_16, mg_17, mg_18, mg_19, mg_20, mg_21, mg_22, mg_23, mg_24, mg_25, mg_26, mg_27, mg_28, mg_29, mg_30, mg_31, mg_32, mg_33, mg_34, mg_35, ms_2, ms_8, ms_9, ms_10, ms_11, ms_12, ms_13, ms_14, ms_15, ms_16, ms_17, ms_18, ms_19, ms_22, ms_23, ms_32, ms_33, ms_34, ms_35, cN_0, vN_0, cN_1, vN_1, cN_2, vN_2, cN_3, vN_3, cN_4, vN_4, cN_5, vN_5, cN_6, vN_6, cN_7, vN_7, cN_8, vN_8, cN_9, vN_9, cN_190, vN_190]
      try simp only [m1f]
      try simp (disch := omega) only [nmod, nI_leI, nI_ltI, nI_eq, nI_clamp, vin_nI, nI_1, fa_lit, nI_add, nI_rm3, nI_rm2, pk_rem, pk_mul, pk_sub, pk_div, nI_eM, nI_Me, nI_pM, nI_pMz, nI_pM0, M1_lt, M1_le, nI_ltM, nI_leM, i8_nI, true_and, and_true, false_implies, true_implies, not_false_eq_true, not_true_eq_false, ne_eq, implies_true, Nat.not_lt_zero, Nat.zero_le, ite_min, max0, Nat.reduceLT, Nat.reduceLeDiff, Nat.reduceEqDiff, Nat.reduceAdd, Nat.reduceMul]
      try simp only [m1u]
      rw [← hA2]
      refine ⟨by omega, by omega, _, t9_sumUp hG (by omega) gH3 hPZ2, ?_⟩
      intro v n2 z2 f2 hr
      rw [← hK, ← hU] at hr
      cases hu : pE K U (k + 1) with
      | inl e =>
        rw [hu] at hr hR
        have hr' := hr
        obtain ⟨rfl, rfl, I3, A3, rfl, a1, a2, rfl, -⟩ := hr
        refine wp_sound (by rw [hi]; exact ok_X9_aLine) (hd := [14, 29, 39, 58, 92, 96, 125]) 400 _ _ _ _ _ _ ?_
        simp only [wp, stp, List.mem_cons, List.not_mem_nil, Nat.reduceEqDiff, or_false, or_self, false_or, or_true, true_or, Nat.reduceAdd, ↓reduceIte, List.getElem?_cons_zero, List.getElem?_cons_succ, nthV, List.set_cons_zero, List.set_cons_succ, noL, popA, catS, Value.category, List.length_cons, List.length_nil, Nat.reduceLT, Nat.reduceLeDiff, true_and, and_true, one0, zer1, imp_t, imp_f, ofN_nI, sdead, f20, f21, not_true_eq_false, upC_ap, upC_upC, retC, fitC, isRefT, Option.toList_some, Option.toList_none, List.cons_append, List.nil_append, Nat.lt_add_one, Nat.zero_lt_succ, Nat.le_refl, Nat.add_zero, Nat.zero_add, Nat.one_ne_zero, Nat.zero_ne_one, Nat.lt_irrefl, List.length_set, fa_X9_aLine, hi, hd, hQ, mr_X9_aLine, true_implies, mM_31, mM_32, mM_33, mM_34, mM_35, mM_36, mM_37, mM_38, mM_39, mM_40, mM_41, mM_42, mM_43, mM_44, mM_45, mM_46, mM_47, mM_48, mu_31, mu_32, mu_33, mu_34, mu_35, mu_36, mu_37, mu_38, mu_39, mu_40, mu_41, mu_42, mu_43, mu_44, mu_45, mu_46, mu_47, mu_48, mO_len, mg_0, mg_1, mg_2, mg_3, mg_4, mg_5, mg_6, mg_7, mg_8, mg_9, mg_10, mg_11, mg_12, mg_13, mg_14, mg_15, mg_16, mg_17, mg_18, mg_19, mg_20, mg_21, mg_22, mg_23, mg_24, mg_25, mg_26, mg_27, mg_28, mg_29, mg_30, mg_31, mg_32, mg_33, mg_34, mg_35, ms_2, ms_8, ms_9, ms_10, ms_11, ms_12, ms_13, ms_14, ms_15, ms_16, ms_17, ms_18, ms_19, ms_22, ms_23, ms_32, ms_33, ms_34, ms_35, cN_0, vN_0, cN_1, vN_1, cN_2, vN_2, cN_3, vN_3, cN_4, vN_4, cN_5, vN_5, cN_6, vN_6, cN_7, vN_7, cN_8, vN_8, cN_9, vN_9, cN_190, vN_190]
        exact RpQ.ln (Nat.le_refl _) (fun i hi => i2o i (by omega) (by omega)) (fun j a b => a2o j b) (fun j hj => by rw [a2o 35 (by omega)]) (fun j hj => by rw [a24, upd_ap, if_neg (by omega)]) hr' rfl hR
      | inr q2 =>
        obtain ⟨k2, ev⟩ := q2
        rw [hu] at hr hR
        dsimp only at hR
        obtain ⟨rfl, rfl, I3, A3, rfl, a1, a2, rfl, a4, c1, a5, a6, a7⟩ := hr
        obtain ⟨b1, b2, b3, b4⟩ := id a6
        have i38 : I3 8 = nI l := (a4 8 (by omega)).trans i28
        have i3o : ∀ i, ¬ (i = 9 ∨ (11 ≤ i ∧ i ≤ 14) ∨ i = 18) → I3 i = I i := fun i hi => by rw [a4 i (by omega)]; exact i2o i (by omega) (by omega)
        obtain ⟨A4, hA4⟩ : ∃ A4, A4 = upA A3 34 (upd (A3 34) (3 * l + 1) (nI c1)) := ⟨_, rfl⟩
        have a4o : ∀ j, ¬ j = 34 → A4 j = A3 j := fun j hj => by rw [hA4]; exact if_neg hj
        have a44 : A4 34 = upd (A3 34) (3 * l + 1) (nI c1) := by rw [hA4]; exact if_pos rfl
        have gH4 : HR tb len T f0 I3 A4 := gH3.cg (a4 10 (by omega)) (by rw [a4o 36 (by omega)]; exact a1 36 (by omega))
        -- the end of the line
        have fin : ∀ I5 A5 k5 c5 (co : Option BV), HR tb len T f0 I5 A5 → PZ tb len T 1 I5 A5 k5 c5 → c1 ≤ c5 → (match co with | none => c1 = c5 | some b => reB (A5 35) c1 c5 b) → (∀ i, ¬ (i = 9 ∨ (11 ≤ i ∧ i ≤ 14) ∨ i = 18) → I5 i = I i) → (∀ j, ¬ j = 35 → A5 j = A4 j) → (∀ j, j < 2 * c1 → A5 35 j = A4 35 j) → (R = if K k5 = 59 then .inr (k5 + 1, (ev, co)) else .inl (1, k5)) → V G X 101 [.ref 31] [] n2 z2 (mM f0 I5 W A5 s) := by
          intro I5 A5 k5 c5 co p1 p2 p3 p4 p5 p6 p7 p8
          obtain ⟨d1, d2, d3, d4⟩ := id p2
          have i58 : I5 8 = nI l := (p5 8 (by omega)).trans h8
          obtain ⟨A6, hA6⟩ : ∃ A6, A6 = upA A5 34 (upd (A5 34) (3 * l + 2) (nI c5)) := ⟨_, rfl⟩
          have a6o : ∀ j, ¬ j = 34 → A6 j = A5 j := fun j hj => by rw [hA6]; exact if_neg hj
          have a64 : A6 34 = upd (A5 34) (3 * l + 2) (nI c5) := by rw [hA6]; exact if_pos rfl
          have gH6 : HR tb len T f0 I5 A6 := p1.cg rfl (a6o 36 (by omega))
          have oA : ∀ j, ¬ j = 35 → ¬ j = 34 → A6 j = A j := fun j x y => by rw [a6o j y, p6 j x, a4o j y, a1 j x, a2o j y]
          have o5 : ∀ j, j < 2 * c → A6 35 j = A 35 j := fun j hj => by rw [a6o 35 (by omega), p7 j (by omega), a4o 35 (by omega), a2 j (by omega), a2o 35 (by omega)]
          have e34 : ∀ j, A6 34 j = if j = 3 * l + 2 then nI c5 else if j = 3 * l + 1 then nI c1 else if j = 3 * l then nI c else A 34 j := fun j => by
            rw [a64, upd_ap, p6 34 (by omega), a44, upd_ap, a1 34 (by omega), a24, upd_ap]
          have o4 : ∀ j, j < 3 * l → A6 34 j = A 34 j := fun j hj => by rw [e34, if_neg (by omega), if_neg (by omega), if_neg (by omega)]
          refine wp_sound (by rw [hi]; exact ok_X9_aLine) (hd := [14, 29, 39, 58, 92, 96, 125]) 400 _ _ _ _ _ _ ?_
          simp only [wp, stp, List.mem_cons, List.not_mem_nil, Nat.reduceEqDiff, or_false, or_self, false_or, or_true, true_or, Nat.reduceAdd, ↓reduceIte, List.getElem?_cons_zero, List.getElem?_cons_succ, nthV, List.set_cons_zero, List.set_cons_succ, noL, popA, catS, Value.category, List.length_cons, List.length_nil, Nat.reduceLT, Nat.reduceLeDiff, true_and, and_true, one0, zer1, imp_t, imp_f, ofN_nI, sdead, f20, f21, not_true_eq_false, upC_ap, upC_upC, retC, fitC, isRefT, Option.toList_some, Option.toList_none, List.cons_append, List.nil_append, Nat.lt_add_one, Nat.zero_lt_succ, Nat.le_refl, Nat.add_zero, Nat.zero_add, Nat.one_ne_zero, Nat.zero_ne_one, Nat.lt_irrefl, List.length_set, fa_X9_aLine, hi, hd, hQ, mr_X9_aLine, i58, d2, mM_31, mM_32, mM_33, mM_34, mM_35, mM_36, mM_37, mM_38, mM_39, mM_40, mM_41, mM_42, mM_43, mM_44, mM_45, mM_46, mM_47, mM_48, mu_31, mu_32, mu_33, mu_34, mu_35, mu_36, mu_37, mu_38, mu_39, mu_40, mu_41, mu_42, mu_43, mu_44, mu_45, mu_46, mu_47, mu_48, mO_len, mg_0, mg_1, mg_2, mg_3, mg_4, mg_5, mg_6, mg_7, mg_8, mg_9, mg_10, mg_11, mg_12, mg_13, mg_14, mg_15, mg_16, mg_17, mg_18, mg_19, mg_20, mg_21, mg_22, mg_23, mg_24, mg_25, mg_26, mg_27, mg_28, mg_29, mg_30, mg_31, mg_32, mg_33, mg_34, mg_35, ms_2, ms_8, ms_9, ms_10, ms_11, ms_12, ms_13, ms_14, ms_15, ms_16, ms_17, ms_18, ms_19, ms_22, ms_23, ms_32, ms_33, ms_34, ms_35, cN_0, vN_0, cN_1, vN_1, cN_2, vN_2, cN_3, vN_3, cN_4, vN_4, cN_5, vN_5, cN_6, vN_6, cN_7, vN_7, cN_8, vN_8, cN_9, vN_9, cN_190, vN_190]
          try simp only [m1f]
          try simp (disch := omega) only [nmod, nI_leI, nI_ltI, nI_eq, nI_clamp, vin_nI, nI_1, fa_lit, nI_add, nI_rm3, nI_rm2, pk_rem, pk_mul, pk_sub, pk_div, nI_eM, nI_Me, nI_pM, nI_pMz, nI_pM0, M1_lt, M1_le, nI_ltM, nI_leM, i8_nI, true_and, and_true, false_implies, true_implies, not_false_eq_true, not_true_eq_false, ne_eq, implies_true, Nat.not_lt_zero, Nat.zero_le, ite_min, max0, Nat.reduceLT, Nat.reduceLeDiff, Nat.reduceEqDiff, Nat.reduceAdd, Nat.reduceMul]
          try simp only [m1u]
          rw [← hA6]
          refine ⟨by omega, by omega, _, t9_need hG (by omega) gH6 d1 d3.2 (x := 59) (Or.inl rfl), ?_⟩
          rintro v n3 z3 f3 ⟨rfl, rfl, I7, rfl, ⟨g1, rfl, g2, g3, g4, g5⟩ | ⟨g1, rfl, rfl⟩⟩
          · rw [← hK] at g1
            rw [if_pos g1] at p8
            refine wp_sound (by rw [hi]; exact ok_X9_aLine) (hd := [14, 29, 39, 58, 92, 96, 125]) 400 _ _ _ _ _ _ ?_
            simp only [wp, stp, List.mem_cons, List.not_mem_nil, Nat.reduceEqDiff, or_false, or_self, false_or, or_true, true_or, Nat.reduceAdd, ↓reduceIte, List.getElem?_cons_zero, List.getElem?_cons_succ, nthV, List.set_cons_zero, List.set_cons_succ, noL, popA, catS, Value.category, List.length_cons, List.length_nil, Nat.reduceLT, Nat.reduceLeDiff, true_and, and_true, one0, zer1, imp_t, imp_f, ofN_nI, sdead, f20, f21, not_true_eq_false, upC_ap, upC_upC, retC, fitC, isRefT, Option.toList_some, Option.toList_none, List.cons_append, List.nil_append, Nat.lt_add_one, Nat.zero_lt_succ, Nat.le_refl, Nat.add_zero, Nat.zero_add, Nat.one_ne_zero, Nat.zero_ne_one, Nat.lt_irrefl, List.length_set, fa_X9_aLine, hi, hd, hQ, mr_X9_aLine, mM_31, mM_32, mM_33, mM_34, mM_35, mM_36, mM_37, mM_38, mM_39, mM_40, mM_41, mM_42, mM_43, mM_44, mM_45, mM_46, mM_47, mM_48, mu_31, mu_32, mu_33, mu_34, mu_35, mu_36, mu_37, mu_38, mu_39, mu_40, mu_41, mu_42, mu_43, mu_44, mu_45, mu_46, mu_47, mu_48, mO_len, mg_0, mg_1, mg_2, mg_3, mg_4, mg_5, mg_6, mg_7, mg_8, mg_9, mg_10, mg_11, mg_12, mg_13, mg_14, mg_15, mg_16, mg_17, mg_18, mg_19, mg_20, mg_21, mg_22, mg_23, mg_24, mg_25, mg_26, mg_27, mg_28, mg_29, mg_30, mg_31, mg_32, mg_33, mg_34, mg_35, ms_2, ms_8, ms_9, ms_10, ms_11, ms_12, ms_13, ms_14, ms_15, ms_16, ms_17, ms_18, ms_19, ms_22, ms_23, ms_32, ms_33, ms_34, ms_35, cN_0, vN_0, cN_1, vN_1, cN_2, vN_2, cN_3, vN_3, cN_4, vN_4, cN_5, vN_5, cN_6, vN_6, cN_7, vN_7, cN_8, vN_8, cN_9, vN_9, cN_190, vN_190]
            rw [p8]
            refine ⟨rfl, rfl, I7, A6, rfl, oA, o5, o4, rfl, fun i hi => by rw [g3 i (by omega)]; exact p5 i hi, c1, c5, ⟨g4, (g3 9 (by omega)).trans d2, by omega, by rw [a6o 35 (by omega)]; exact d4⟩, a5, ⟨a5, p3⟩, ⟨by rw [e34, if_neg (by omega), if_neg (by omega), if_pos rfl], by rw [e34, if_neg (by omega), if_pos rfl], by rw [e34, if_pos rfl]⟩, ?_, ?_⟩
            · rw [a6o 35 (by omega)]
              exact reE.cg a7 (fun j hj => by rw [p7 j hj, a4o 35 (by omega)]) a5
            · rw [a6o 35 (by omega)]
              cases co with
              | none => exact p4
              | some b => exact ⟨reB.lt p4 p3, p4⟩
          · rw [← hK] at g1
            rw [if_neg g1] at p8
            refine wp_sound (by rw [hi]; exact ok_X9_aLine) (hd := [14, 29, 39, 58, 92, 96, 125]) 400 _ _ _ _ _ _ ?_
            simp only [wp, stp, List.mem_cons, List.not_mem_nil, Nat.reduceEqDiff, or_false, or_self, false_or, or_true, true_or, Nat.reduceAdd, ↓reduceIte, List.getElem?_cons_zero, List.getElem?_cons_succ, nthV, List.set_cons_zero, List.set_cons_succ, noL, popA, catS, Value.category, List.length_cons, List.length_nil, Nat.reduceLT, Nat.reduceLeDiff, true_and, and_true, one0, zer1, imp_t, imp_f, ofN_nI, sdead, f20, f21, not_true_eq_false, upC_ap, upC_upC, retC, fitC, isRefT, Option.toList_some, Option.toList_none, List.cons_append, List.nil_append, Nat.lt_add_one, Nat.zero_lt_succ, Nat.le_refl, Nat.add_zero, Nat.zero_add, Nat.one_ne_zero, Nat.zero_ne_one, Nat.lt_irrefl, List.length_set, fa_X9_aLine, hi, hd, hQ, mr_X9_aLine, mM_31, mM_32, mM_33, mM_34, mM_35, mM_36, mM_37, mM_38, mM_39, mM_40, mM_41, mM_42, mM_43, mM_44, mM_45, mM_46, mM_47, mM_48, mu_31, mu_32, mu_33, mu_34, mu_35, mu_36, mu_37, mu_38, mu_39, mu_40, mu_41, mu_42, mu_43, mu_44, mu_45, mu_46, mu_47, mu_48, mO_len, mg_0, mg_1, mg_2, mg_3, mg_4, mg_5, mg_6, mg_7, mg_8, mg_9, mg_10, mg_11, mg_12, mg_13, mg_14, mg_15, mg_16, mg_17, mg_18, mg_19, mg_20, mg_21, mg_22, mg_23, mg_24, mg_25, mg_26, mg_27, mg_28, mg_29, mg_30, mg_31, mg_32, mg_33, mg_34, mg_35, ms_2, ms_8, ms_9, ms_10, ms_11, ms_12, ms_13, ms_14, ms_15, ms_16, ms_17, ms_18, ms_19, ms_22, ms_23, ms_32, ms_33, ms_34, ms_35, cN_0, vN_0, cN_1, vN_1, cN_2, vN_2, cN_3, vN_3, cN_4, vN_4, cN_5, vN_5, cN_6, vN_6, cN_7, vN_7, cN_8, vN_8, cN_9, vN_9, cN_190, vN_190]
            exact RlQ.bad d1 (fun i hi => p5 i (by omega)) oA o5 o4 p8
        obtain ⟨R3, t1, t2, t3, t4, t5, t6⟩ := b1.tok hH.1 b3.2
        rw [← hK, ← hU] at t3 t5 t6
        have kw3 := (tkR_kw t5).2.2.2.1
        rw [← t3] at kw3
        by_cases qw : K k2 = 261
        · rw [if_pos qw] at hR
          obtain ⟨hkT2, -⟩ := t6 (by omega)
          have m3 : I3 12 = nI 3 := by rw [t1, kw3.mpr qw]
          refine wp_sound (by rw [hi]; exact ok_X9_aLine) (hd := [14, 29, 39, 58, 92, 96, 125]) 400 _ _ _ _ _ _ ?_
          simp only [wp, stp, List.mem_cons, List.not_mem_nil, Nat.reduceEqDiff, or_false, or_self, false_or, or_true, true_or, Nat.reduceAdd, ↓reduceIte, List.getElem?_cons_zero, List.getElem?_cons_succ, nthV, List.set_cons_zero, List.set_cons_succ, noL, popA, catS, Value.category, List.length_cons, List.length_nil, Nat.reduceLT, Nat.reduceLeDiff, true_and, and_true, one0, zer1, imp_t, imp_f, ofN_nI, sdead, f20, f21, not_true_eq_false, upC_ap, upC_upC, retC, fitC, isRefT, Option.toList_some, Option.toList_none, List.cons_append, List.nil_append, Nat.lt_add_one, Nat.zero_lt_succ, Nat.le_refl, Nat.add_zero, Nat.zero_add, Nat.one_ne_zero, Nat.zero_ne_one, Nat.lt_irrefl, List.length_set, fa_X9_aLine, hi, hd, hQ, mr_X9_aLine, i38, b2, m3, mM_31, mM_32, mM_33, mM_34, mM_35, mM_36, mM_37, mM_38, mM_39, mM_40, mM_41, mM_42, mM_43, mM_44, mM_45, mM_46, mM_47, mM_48, mu_31, mu_32, mu_33, mu_34, mu_35, mu_36, mu_37, mu_38, mu_39, mu_40, mu_41, mu_42, mu_43, mu_44, mu_45, mu_46, mu_47, mu_48, mO_len, mg_0, mg_1, mg_2, mg_3, mg_4, mg_5, mg_6, mg_7, mg_8, mg_9, mg_10, mg_11, mg_12, mg_13, mg_14, mg_15, mg_16, mg_17, mg_18, mg_19, mg_20, mg_21, mg_22, mg_23, mg_24, mg_25, mg_26, mg_27, mg_28, mg_29, mg_30, mg_31, mg_32, mg_33, mg_34, mg_35, ms_2, ms_8, ms_9, ms_10, ms_11, ms_12, ms_13, ms_14, ms_15, ms_16, ms_17, ms_18, ms_19, ms_22, ms_23, ms_32, ms_33, ms_34, ms_35, cN_0, vN_0, cN_1, vN_1, cN_2, vN_2, cN_3, vN_3, cN_4, vN_4, cN_5, vN_5, cN_6, vN_6, cN_7, vN_7, cN_8, vN_8, cN_9, vN_9, cN_190, vN_190]
          try simp only [m1f]
          try simp (disch := omega) only [nmod, nI_leI, nI_ltI, nI_eq, nI_clamp, vin_nI, nI_1, fa_lit, nI_add, nI_rm3, nI_rm2, pk_rem, pk_mul, pk_sub, pk_div, nI_eM, nI_Me, nI_pM, nI_pMz, nI_pM0, M1_lt, M1_le, nI_ltM, nI_leM, i8_nI, true_and, and_true, false_implies, true_implies, not_false_eq_true, not_true_eq_false, ne_eq, implies_true, Nat.not_lt_zero, Nat.zero_le, ite_min, max0, Nat.reduceLT, Nat.reduceLeDiff, Nat.reduceEqDiff, Nat.reduceAdd, Nat.reduceMul]
          try simp only [m1u]
          rw [← hA4]
          refine ⟨by omega, by omega, _, t9_nx hG (by omega) gH4 b1, ?_⟩
          rintro v n3 z3 f3 ⟨rfl, rfl, rfl, I5, rfl, g1, g2, gH5⟩
          have hPZ5 : PZ tb len T 1 I5 A4 (k2 + 1) c1 := ⟨g2, (g1 9 (by omega)).trans b2, by omega, by rw [a4o 35 (by omega)]; exact b4⟩
          have i518 : I5 18 = nI (8 - 8) := by rw [g1 18 (by omega), a4 18 (by omega), e1 18 (by omega), upd_ap, if_pos rfl]
          refine wp_sound (by rw [hi]; exact ok_X9_aLine) (hd := [14, 29, 39, 58, 92, 96, 125]) 400 _ _ _ _ _ _ ?_
          simp only [wp, stp, List.mem_cons, List.not_mem_nil, Nat.reduceEqDiff, or_false, or_self, false_or, or_true, true_or, Nat.reduceAdd, ↓reduceIte, List.getElem?_cons_zero, List.getElem?_cons_succ, nthV, List.set_cons_zero, List.set_cons_succ, noL, popA, catS, Value.category, List.length_cons, List.length_nil, Nat.reduceLT, Nat.reduceLeDiff, true_and, and_true, one0, zer1, imp_t, imp_f, ofN_nI, sdead, f20, f21, not_true_eq_false, upC_ap, upC_upC, retC, fitC, isRefT, Option.toList_some, Option.toList_none, List.cons_append, List.nil_append, Nat.lt_add_one, Nat.zero_lt_succ, Nat.le_refl, Nat.add_zero, Nat.zero_add, Nat.one_ne_zero, Nat.zero_ne_one, Nat.lt_irrefl, List.length_set, fa_X9_aLine, hi, hd, hQ, mr_X9_aLine, mM_31, mM_32, mM_33, mM_34, mM_35, mM_36, mM_37, mM_38, mM_39, mM_40, mM_41, mM_42, mM_43, mM_44, mM_45, mM_46, mM_47, mM_48, mu_31, mu_32, mu_33, mu_34, mu_35, mu_36, mu_37, mu_38, mu_39, mu_40, mu_41, mu_42, mu_43, mu_44, mu_45, mu_46, mu_47, mu_48, mO_len, mg_0, mg_1, mg_2, mg_3, mg_4, mg_5, mg_6, mg_7, mg_8, mg_9, mg_10, mg_11, mg_12, mg_13, mg_14, mg_15, mg_16, mg_17, mg_18, mg_19, mg_20, mg_21, mg_22, mg_23, mg_24, mg_25, mg_26, mg_27, mg_28, mg_29, mg_30, mg_31, mg_32, mg_33, mg_34, mg_35, ms_2, ms_8, ms_9, ms_10, ms_11, ms_12, ms_13, ms_14, ms_15, ms_16, ms_17, ms_18, ms_19, ms_22, ms_23, ms_32, ms_33, ms_34, ms_35, cN_0, vN_0, cN_1, vN_1, cN_2, vN_2, cN_3, vN_3, cN_4, vN_4, cN_5, vN_5, cN_6, vN_6, cN_7, vN_7, cN_8, vN_8, cN_9, vN_9, cN_190, vN_190]
          refine ⟨by omega, _, t9_any hG (ot_all hG 8 (by omega) _ (by omega)) (by omega) gH5 hPZ5 i518, ?_⟩
          intro v n4 z4 f4 hr
          rw [← hK, ← hU] at hr
          cases hu2 : pBo K (pC K U 8) (k2 + 1) with
          | inl e =>
            rw [hu2] at hr hR
            have hr' := hr
            obtain ⟨rfl, rfl, I6, A6, rfl, x1, x2, rfl, -⟩ := hr
            refine wp_sound (by rw [hi]; exact ok_X9_aLine) (hd := [14, 29, 39, 58, 92, 96, 125]) 400 _ _ _ _ _ _ ?_
            simp only [wp, stp, List.mem_cons, List.not_mem_nil, Nat.reduceEqDiff, or_false, or_self, false_or, or_true, true_or, Nat.reduceAdd, ↓reduceIte, List.getElem?_cons_zero, List.getElem?_cons_succ, nthV, List.set_cons_zero, List.set_cons_succ, noL, popA, catS, Value.category, List.length_cons, List.length_nil, Nat.reduceLT, Nat.reduceLeDiff, true_and, and_true, one0, zer1, imp_t, imp_f, ofN_nI, sdead, f20, f21, not_true_eq_false, upC_ap, upC_upC, retC, fitC, isRefT, Option.toList_some, Option.toList_none, List.cons_append, List.nil_append, Nat.lt_add_one, Nat.zero_lt_succ, Nat.le_refl, Nat.add_zero, Nat.zero_add, Nat.one_ne_zero, Nat.zero_ne_one, Nat.lt_irrefl, List.length_set, fa_X9_aLine, hi, hd, hQ, mr_X9_aLine, true_implies, mM_31, mM_32, mM_33, mM_34, mM_35, mM_36, mM_37, mM_38, mM_39, mM_40, mM_41, mM_42, mM_43, mM_44, mM_45, mM_46, mM_47, mM_48, mu_31, mu_32, mu_33, mu_34, mu_35, mu_36, mu_37, mu_38, mu_39, mu_40, mu_41, mu_42, mu_43, mu_44, mu_45, mu_46, mu_47, mu_48, mO_len, mg_0, mg_1, mg_2, mg_3, mg_4, mg_5, mg_6, mg_7, mg_8, mg_9, mg_10, mg_11, mg_12, mg_13, mg_14, mg_15, mg_16, mg_17, mg_18, mg_19, mg_20, mg_21, mg_22, mg_23, mg_24, mg_25, mg_26, mg_27, mg_28, mg_29, mg_30, mg_31, mg_32, mg_33, mg_34, mg_35, ms_2, ms_8, ms_9, ms_10, ms_11, ms_12, ms_13, ms_14, ms_15, ms_16, ms_17, ms_18, ms_19, ms_22, ms_23, ms_32, ms_33, ms_34, ms_35, cN_0, vN_0, cN_1, vN_1, cN_2, vN_2, cN_3, vN_3, cN_4, vN_4, cN_5, vN_5, cN_6, vN_6, cN_7, vN_7, cN_8, vN_8, cN_9, vN_9, cN_190, vN_190]
            exact RpQ.ln a5 (fun i hi => by rw [g1 i (by omega)]; exact i3o i (by omega)) (fun j x y => by rw [a4o j y, a1 j x, a2o j y]) (fun j hj => by rw [a4o 35 (by omega), a2 j (by omega), a2o 35 (by omega)]) (fun j hj => by rw [a44, upd_ap, if_neg (by omega), a1 34 (by omega), a24, upd_ap, if_neg (by omega)]) hr' rfl hR
          | inr q3 =>
            obtain ⟨k3, b⟩ := q3
            rw [hu2] at hr hR
            dsimp only at hR
            obtain ⟨rfl, rfl, I6, A6, rfl, x1, x2, rfl, x4, c3, x5, x6, x7⟩ := hr
            refine wp_sound (by rw [hi]; exact ok_X9_aLine) (hd := [14, 29, 39, 58, 92, 96, 101, 125]) 400 _ _ _ _ _ _ ?_
            simp only [wp, stp, List.mem_cons, List.not_mem_nil, Nat.reduceEqDiff, or_false, or_self, false_or, or_true, true_or, Nat.reduceAdd, ↓reduceIte, List.getElem?_cons_zero, List.getElem?_cons_succ, nthV, List.set_cons_zero, List.set_cons_succ, noL, popA, catS, Value.category, List.length_cons, List.length_nil, Nat.reduceLT, Nat.reduceLeDiff, true_and, and_true, one0, zer1, imp_t, imp_f, ofN_nI, sdead, f20, f21, not_true_eq_false, upC_ap, upC_upC, retC, fitC, isRefT, Option.toList_some, Option.toList_none, List.cons_append, List.nil_append, Nat.lt_add_one, Nat.zero_lt_succ, Nat.le_refl, Nat.add_zero, Nat.zero_add, Nat.one_ne_zero, Nat.zero_ne_one, Nat.lt_irrefl, List.length_set, fa_X9_aLine, hi, hd, hQ, mr_X9_aLine, true_implies, mM_31, mM_32, mM_33, mM_34, mM_35, mM_36, mM_37, mM_38, mM_39, mM_40, mM_41, mM_42, mM_43, mM_44, mM_45, mM_46, mM_47, mM_48, mu_31, mu_32, mu_33, mu_34, mu_35, mu_36, mu_37, mu_38, mu_39, mu_40, mu_41, mu_42, mu_43, mu_44, mu_45, mu_46, mu_47, mu_48, mO_len, mg_0, mg_1, mg_2, mg_3, mg_4, mg_5, mg_6, mg_7, mg_8, mg_9, mg_10, mg_11, mg_12, mg_13, mg_14, mg_15, mg_16, mg_17, mg_18, mg_19, mg_20, mg_21, mg_22, mg_23, mg_24, mg_25, mg_26, mg_27, mg_28, mg_29, mg_30, mg_31, mg_32, mg_33, mg_34, mg_35, ms_2, ms_8, ms_9, ms_10, ms_11, ms_12, ms_13, ms_14, ms_15, ms_16, ms_17, ms_18, ms_19, ms_22, ms_23, ms_32, ms_33, ms_34, ms_35, cN_0, vN_0, cN_1, vN_1, cN_2, vN_2, cN_3, vN_3, cN_4, vN_4, cN_5, vN_5, cN_6, vN_6, cN_7, vN_7, cN_8, vN_8, cN_9, vN_9, cN_190, vN_190]
            exact fin I6 A6 k3 c3 (some b) (gH5.cg (x4 10 (by omega)) (x1 36 (by omega))) x6 x5 x7 (fun i hi => by rw [x4 i (by omega), g1 i (by omega)]; exact i3o i hi) x1 x2 hR
        · rw [if_neg qw] at hR
          have m3 : ¬ R3 = 3 := fun r => qw (kw3.mp r)
          have := fin I3 A4 k2 c1 none gH4 ⟨b1, b2, b3, by rw [a4o 35 (by omega)]; exact b4⟩ (Nat.le_refl _) rfl i3o (fun _ _ => rfl) (fun _ _ => rfl) hR
          refine wp_sound (by rw [hi]; exact ok_X9_aLine) (hd := [14, 29, 39, 58, 92, 96, 101, 125]) 400 _ _ _ _ _ _ ?_
          simp only [wp, stp, List.mem_cons, List.not_mem_nil, Nat.reduceEqDiff, or_false, or_self, false_or, or_true, true_or, Nat.reduceAdd, ↓reduceIte, List.getElem?_cons_zero, List.getElem?_cons_succ, nthV, List.set_cons_zero, List.set_cons_succ, noL, popA, catS, Value.category, List.length_cons, List.length_nil, Nat.reduceLT, Nat.reduceLeDiff, true_and, and_true, one0, zer1, imp_t, imp_f, ofN_nI, sdead, f20, f21, not_true_eq_false, upC_ap, upC_upC, retC, fitC, isRefT, Option.toList_some, Option.toList_none, List.cons_append, List.nil_append, Nat.lt_add_one, Nat.zero_lt_succ, Nat.le_refl, Nat.add_zero, Nat.zero_add, Nat.one_ne_zero, Nat.zero_ne_one, Nat.lt_irrefl, List.length_set, fa_X9_aLine, hi, hd, hQ, mr_X9_aLine, i38, b2, t1, m3, mM_31, mM_32, mM_33, mM_34, mM_35, mM_36, mM_37, mM_38, mM_39, mM_40, mM_41, mM_42, mM_43, mM_44, mM_45, mM_46, mM_47, mM_48, mu_31, mu_32, mu_33, mu_34, mu_35, mu_36, mu_37, mu_38, mu_39, mu_40, mu_41, mu_42, mu_43, mu_44, mu_45, mu_46, mu_47, mu_48, mO_len, mg_0, mg_1, mg_2, mg_3, mg_4, mg_5, mg_6, mg_7, mg_8, mg_9, mg_10, mg_11, mg_12, mg_13, mg_14, mg_15, mg_16, mg_17, mg_18, mg_19, mg_20, mg_21, mg_22, mg_23, mg_24, mg_25, mg_26, mg_27, mg_28, mg_29, mg_30, mg_31, mg_32, mg_33, mg_34, mg_35, ms_2, ms_8, ms_9, ms_10, ms_11, ms_12, ms_13, ms_14, ms_15, ms_16, ms_17, ms_18, ms_19, ms_22, ms_23, ms_32, ms_33, ms_34, ms_35, cN_0, vN_0, cN_1, vN_1, cN_2, vN_2, cN_3, vN_3, cN_4, vN_4, cN_5, vN_5, cN_6, vN_6, cN_7, vN_7, cN_8, vN_8, cN_9, vN_9, cN_190, vN_190]
          try simp only [m1f]
          try simp (disch := omega) only [nmod, nI_leI, nI_ltI, nI_eq, nI_clamp, vin_nI, nI_1, fa_lit, nI_add, nI_rm3, nI_rm2, pk_rem, pk_mul, pk_sub, pk_div, nI_eM, nI_Me, nI_pM, nI_pMz, nI_pM0, M1_lt, M1_le, nI_ltM, nI_leM, i8_nI, true_and, and_true, false_implies, true_implies, not_false_eq_true, not_true_eq_false, ne_eq, implies_true, Nat.not_lt_zero, Nat.zero_le, ite_min, max0, Nat.reduceLT, Nat.reduceLeDiff, Nat.reduceEqDiff, Nat.reduceAdd, Nat.reduceMul]
          try simp only [m1u]
          rw [← hA4]
          first | exact ⟨by omega, this⟩ | exact ⟨by omega, fun _ => this, fun r => absurd r m3⟩
  · rw [if_neg q] at hR
    have n1 : ¬ R1 = 20 := fun r => q (kw.mp r)
    have m1 : ¬ nI R1 = 20 := fun r => n1 ((nI_eq (b := 20) (by omega) (by omega)).mp r)
    refine wp_sound (by rw [hi]; exact ok_X9_aLine) (hd := [14, 29, 39, 58, 92, 96, 125]) 400 _ _ _ _ _ _ ?_
    simp only [wp, stp, List.mem_cons, List.not_mem_nil, Nat.reduceEqDiff, or_false, or_self, false_or, or_true, true_or, Nat.reduceAdd, ↓reduceIte, List.getElem?_cons_zero, List.getElem?_cons_succ, nthV, List.set_cons_zero, List.set_cons_succ, noL, popA, catS, Value.category, List.length_cons, List.length_nil, Nat.reduceLT, Nat.reduceLeDiff, true_and, and_true, one0, zer1, imp_t, imp_f, ofN_nI, sdead, f20, f21, not_true_eq_false, upC_ap, upC_upC, retC, fitC, isRefT, Option.toList_some, Option.toList_none, List.cons_append, List.nil_append, Nat.lt_add_one, Nat.zero_lt_succ, Nat.le_refl, Nat.add_zero, Nat.zero_add, Nat.one_ne_zero, Nat.zero_ne_one, Nat.lt_irrefl, List.length_set, fa_X9_aLine, hi, hd, hQ, mr_X9_aLine, r1, m1, true_implies, mM_31, mM_32, mM_33, mM_34, mM_35, mM_36, mM_37, mM_38, mM_39, mM_40, mM_41, mM_42, mM_43, mM_44, mM_45, mM_46, mM_47, mM_48, mu_31, mu_32, mu_33, mu_34, mu_35, mu_36, mu_37, mu_38, mu_39, mu_40, mu_41, mu_42, mu_43, mu_44, mu_45, mu_46, mu_47, mu_48, mO_len, mg_0, mg_1, mg_2, mg_3, mg_4, mg_5, mg_6, mg_7, mg_8, mg_9, mg_10, mg_11, mg_12, mg_13, mg_14, mg_15, mg_16, mg_17, mg_18, mg_19, mg_20, mg_21, mg_22, mg_23, mg_24, mg_25, mg_26, mg_27, mg_28, mg_29, mg_30, mg_31, mg_32, mg_33, mg_34, mg_35, ms_2, ms_8, ms_9, ms_10, ms_11, ms_12, ms_13, ms_14, ms_15, ms_16, ms_17, ms_18, ms_19, ms_22, ms_23, ms_32, ms_33, ms_34, ms_35, cN_0, vN_0, cN_1, vN_1, cN_2, vN_2, cN_3, vN_3, cN_4, vN_4, cN_5, vN_5, cN_6, vN_6, cN_7, vN_7, cN_8, vN_8, cN_9, vN_9, cN_190, vN_190]
    refine ⟨by omega, _, t9_bad hG 1, ?_⟩
    rintro v n1 z1 f1 ⟨rfl, rfl, rfl, rfl⟩
    refine wp_sound (by rw [hi]; exact ok_X9_aLine) (hd := [14, 29, 39, 58, 92, 96, 125]) 400 _ _ _ _ _ _ ?_
    simp only [wp, stp, List.mem_cons, List.not_mem_nil, Nat.reduceEqDiff, or_false, or_self, false_or, or_true, true_or, Nat.reduceAdd, ↓reduceIte, List.getElem?_cons_zero, List.getElem?_cons_succ, nthV, List.set_cons_zero, List.set_cons_succ, noL, popA, catS, Value.category, List.length_cons, List.length_nil, Nat.reduceLT, Nat.reduceLeDiff, true_and, and_true, one0, zer1, imp_t, imp_f, ofN_nI, sdead, f20, f21, not_true_eq_false, upC_ap, upC_upC, retC, fitC, isRefT, Option.toList_some, Option.toList_none, List.cons_append, List.nil_append, Nat.lt_add_one, Nat.zero_lt_succ, Nat.le_refl, Nat.add_zero, Nat.zero_add, Nat.one_ne_zero, Nat.zero_ne_one, Nat.lt_irrefl, List.length_set, fa_X9_aLine, hi, hd, hQ, mr_X9_aLine, mM_31, mM_32, mM_33, mM_34, mM_35, mM_36, mM_37, mM_38, mM_39, mM_40, mM_41, mM_42, mM_43, mM_44, mM_45, mM_46, mM_47, mM_48, mu_31, mu_32, mu_33, mu_34, mu_35, mu_36, mu_37, mu_38, mu_39, mu_40, mu_41, mu_42, mu_43, mu_44, mu_45, mu_46, mu_47, mu_48, mO_len, mg_0, mg_1, mg_2, mg_3, mg_4, mg_5, mg_6, mg_7, mg_8, mg_9, mg_10, mg_11, mg_12, mg_13, mg_14, mg_15, mg_16, mg_17, mg_18, mg_19, mg_20, mg_21, mg_22, mg_23, mg_24, mg_25, mg_26, mg_27, mg_28, mg_29, mg_30, mg_31, mg_32, mg_33, mg_34, mg_35, ms_2, ms_8, ms_9, ms_10, ms_11, ms_12, ms_13, ms_14, ms_15, ms_16, ms_17, ms_18, ms_19, ms_22, ms_23, ms_32, ms_33, ms_34, ms_35, cN_0, vN_0, cN_1, vN_1, cN_2, vN_2, cN_3, vN_3, cN_4, vN_4, cN_5, vN_5, cN_6, vN_6, cN_7, vN_7, cN_8, vN_8, cN_9, vN_9, cN_190, vN_190]
    exact RlQ.bad hp (fun _ _ => rfl) (fun _ _ _ => rfl) (fun _ _ => rfl) (fun _ _ => rfl) hR
end Mus
