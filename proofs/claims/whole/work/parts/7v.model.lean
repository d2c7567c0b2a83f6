-- the reference's reader: the whole text
set_option maxRecDepth 100000
set_option maxHeartbeats 4000000
section Mvs
variable {G : Gam} {d n z tl : Nat} {f f0 : Mf} {I W : Nat → Int32} {A : Nat → Nat → Int32} {s : Sc} {S : Sta} {L : Lw} {tb : Nat → Nat} {fk fp : Int32} {kp : Option (Sta × Lw)}
/-- the lines laid so far -/
def LsA (a34 a35 : Nat → Int32) (ls : Lns) (c : Nat) : Prop := ∀ l ln, ls[l]? = some ln → ∃ b m t, t ≤ c ∧ LnA a34 a35 l b m t ln
theorem LnA.cg {a34 a34' a35 a35' : Nat → Int32} {l b m t c : Nat} {ln : EV × Option BV} (h : LnA a34 a35 l b m t ln) (ht : t ≤ c) (h5 : ∀ j, j < 2 * c → a35' j = a35 j) {l' : Nat} (hl : l < l') (h4 : ∀ j, j < 3 * l' → a34' j = a34 j) : LnA a34' a35' l b m t ln := by
  obtain ⟨⟨h1, h2⟩, ⟨e1, e2, e3⟩, h3, h6⟩ := h
  refine ⟨⟨h1, h2⟩, ⟨by rw [h4 _ (by omega)]; exact e1, by rw [h4 _ (by omega)]; exact e2, by rw [h4 _ (by omega)]; exact e3⟩, reE.cg h3 (fun j hj => h5 j (by omega)) h1, ?_⟩
  split at h6
  · exact h6
  · exact ⟨h6.1, reE.cg h6.2 (fun j hj => h5 j (by omega)) h2⟩
/-- how the telling of a law ends in the reference -/
def RtX (S : Sta) (L : Lw) (tb : Nat → Nat) (tl : Nat) (kp : Option (Sta × Lw)) (n z : Nat) (f0 : Mf) : Po := fun v n' z' f' => match pLw (tK tb tl) (tV tb tl) 17 0 [] with
  | .inl (why, j) => RX S L tb 0 (nI why) (nI (sqT tb tl j)) kp n z f0 (-1) v n' z' f'
  | .inr (_, ls) => ∀ ae, RX S (nI ls.length, ae, lwV ls) tb 0 0 (-1) kp n z f0 (nI ls.length) v n' z' f'
theorem t9_text (hG : Ok G) (hd1 : 41 ≤ d) (hA0 : StrA f0) (h : RM S L tb tl fk fp kp I W A s) : Tr G d 166 [.ref 31] n z (mM f0 I W A s) (RtX S L tb tl kp n z f0) := by
  obtain ⟨h10, hl4, hT⟩ := id h.2.1
  obtain ⟨T, hT1, hT2, hT3⟩ := sqT_num (tb := tb) (len := tl)
  have hTk : TkS (tK tb tl) (tV tb tl) T := tkS_lex hl4 (fun i hi => (hT i hi).1) hT1 hT2 hT3
  have hT4 := hTk.1
  obtain ⟨K, hK⟩ : ∃ K, K = tK tb tl := ⟨_, rfl⟩
  obtain ⟨U, hU⟩ : ∃ U, U = tV tb tl := ⟨_, rfl⟩
  have hTk' : TkS K U T := by rw [hK, hU]; exact hTk
  refine Tr.of2 (ls0 := [.ref 31, dead, dead]) hG mo_X9_text (Nat.le_of_ble_eq_true rfl) rfl ?_
  intro X hi hd hXn hXz hXf hQ
  obtain ⟨R, hR⟩ : ∃ R, R = pLw (tK tb tl) (tV tb tl) 17 0 [] := ⟨_, rfl⟩
  unfold RtX at hQ
  rw [← hR] at hQ
  rw [← hK, ← hU] at hR
  -- what stays of the object
  have RMof : ∀ I' A' W' fk' fp' S' L', HV S' L' I' W' s → I' 10 = nI 0 → I' 17 = fk' → I' 19 = fp' → I' 2 = I 2 → (∀ j, ¬ j = 35 → ¬ j = 34 → A' j = A j) → RM S' L' tb 0 fk' fp' kp I' W' A' s := fun I' A' W' fk' fp' S' L' hv a b c e hA => by
    refine ⟨hv, ⟨a, by omega, fun j hj => absurd hj (by omega)⟩, ⟨b, c⟩, ?_⟩
    have := h.2.2.2
    unfold RKp at this ⊢
    split
    · rw [e]; exact this
    · rw [e, hA 33 (by omega) (by omega)]; exact this
  have loop : ∀ j ls I1 A1 k c, ls.length + j = 16 → HR tb tl T f0 I1 A1 → PZ tb tl T 0 I1 A1 k c → I1 8 = nI ls.length → I1 15 = nI 0 → (∀ i, (i < 8 ∨ i = 10 ∨ i = 17 ∨ 18 < i) → I1 i = I i) → (∀ j, ¬ j = 35 → ¬ j = 34 → A1 j = A j) → LsA (A1 34) (A1 35) ls c → R = pLw K U (17 - ls.length) k ls → ∀ u2, V G X 26 [.ref 31, .int 1, u2] [] n z (mM f0 I1 W A1 s) := by
    -- a good end
    have fin : ∀ ls I1 A1 k c, ls.length ≤ 16 → c ≤ 400 → I1 9 = nI c → StA (A1 35) c → I1 8 = nI ls.length → I1 15 = nI 0 → (∀ i, (i < 8 ∨ i = 10 ∨ i = 17 ∨ 18 < i) → I1 i = I i) → (∀ j, ¬ j = 35 → ¬ j = 34 → A1 j = A j) → LsA (A1 34) (A1 35) ls c → R = .inr (k, ls) → ∀ u2, V G X 63 [.ref 31, .int 1, u2] [] n z (mM f0 I1 W A1 s) := by
      intro ls I1 A1 k c g1 g2 g3 g4 g5 g6 g7 g8 g9 g10 u2
      rw [g10] at hQ
      obtain ⟨I2, hI2⟩ : ∃ I2, I2 = upd (upd (upd I1 10 (nI 0)) 17 (nI 0)) 19 (-1) := ⟨_, rfl⟩
      have i28 : I2 8 = nI ls.length := by rw [hI2, upd_ap, if_neg (by omega), upd_ap, if_neg (by omega), upd_ap, if_neg (by omega)]; exact g5
      have i29 : I2 9 = nI c := by rw [hI2, upd_ap, if_neg (by omega), upd_ap, if_neg (by omega), upd_ap, if_neg (by omega)]; exact g3
      have i2 : ∀ i, i < 8 ∨ 19 < i → I2 i = I i := fun i hi => by rw [hI2, upd_ap, if_neg (by omega), upd_ap, if_neg (by omega), upd_ap, if_neg (by omega)]; exact g7 i (by omega)
      have lop2 : ∀ m x W1, x + m = 2 * c → (W1 190 = nI ls.length) → (∀ l, l < ls.length → W1 (195 + l) = A1 34 (3 * l) ∧ W1 (215 + l) = A1 34 (3 * l + 1) ∧ W1 (235 + l) = A1 34 (3 * l + 2)) → (∀ y, y < x → W1 (255 + y) = A1 35 y) → (∀ i, i < 190 → W1 i = W i) → V G X 186 [.ref 31, .int 1, .int (nI x)] [] n z (mM f0 I2 W1 A1 s) := by
        intro m
        induction m with
        | zero =>
          intro x W1 hx w1 w2 w3 w4
          have : x = 2 * c := by omega
          subst this
          refine wpC_sound (PC_ok hG _) (by rw [hi]; exact ok_X9_text) (hd := [24, 26, 41, 112, 186]) 400 _ _ _ _ _ _ ?_
          simp only [wp, stp, List.mem_cons, List.not_mem_nil, Nat.reduceEqDiff, or_false, or_self, false_or, or_true, true_or, Nat.reduceAdd, ↓reduceIte, List.getElem?_cons_zero, List.getElem?_cons_succ, nthV, List.set_cons_zero, List.set_cons_succ, noL, popA, catS, Value.category, List.length_cons, List.length_nil, Nat.reduceLT, Nat.reduceLeDiff, true_and, and_true, one0, zer1, imp_t, imp_f, ofN_nI, sdead, f20, f21, not_true_eq_false, upC_ap, upC_upC, retC, fitC, isRefT, Option.toList_some, Option.toList_none, List.cons_append, List.nil_append, Nat.lt_add_one, Nat.zero_lt_succ, Nat.le_refl, Nat.add_zero, Nat.zero_add, Nat.one_ne_zero, Nat.zero_ne_one, Nat.lt_irrefl, List.length_set, fa_X9_text, hi, hd, hQ, mr_X9_text, i29, i28, mM_31, mM_32, mM_33, mM_34, mM_35, mM_36, mM_37, mM_38, mM_39, mM_40, mM_41, mM_42, mM_43, mM_44, mM_45, mM_46, mM_47, mM_48, mu_31, mu_32, mu_33, mu_34, mu_35, mu_36, mu_37, mu_38, mu_39, mu_40, mu_41, mu_42, mu_43, mu_44, mu_45, mu_46, mu_47, mu_48, mO_len, mg_0, mg_1, mg_2, mg_3, mg_4, mg_5, mg_6, mg_7, mg_8, mg_9, mg_10, mg_11, mg_12, mg_13, mg_14, mg_15, mg_16, mg_17, mg_18, mg_19, mg_20, mg_21, mg_22, mg_23, mg_24, mg_25, mg_26, mg_27, mg_28, mg_29, mg_30, mg_31, mg_32, mg_33, mg_34, mg_35, ms_2, ms_8, ms_9, ms_10, ms_11, ms_12, ms_13, ms_14, ms_15, ms_16, ms_17, ms_18, ms_19, ms_22, ms_23, ms_32, ms_33, ms_34, ms_35, cN_0, vN_0, cN_1, vN_1, cN_2, vN_2, cN_3, vN_3, cN_4, vN_4, cN_5, vN_5, cN_6, vN_6, cN_7, vN_7, cN_8, vN_8, cN_9, vN_9, cN_190, vN_190, wpC, stpC, PC, PV, reduceCtorEq]
          try simp only [m1f]
          try simp (disch := omega) only [nmod, nI_leI, nI_ltI, nI_eq, nI_clamp, vin_nI, nI_1, fa_lit, nI_add, nI_rm3, nI_rm2, pk_rem, pk_mul, pk_sub, pk_div, nI_eM, nI_Me, nI_pM, nI_pMz, nI_pM0, M1_lt, M1_le, nI_ltM, nI_leM, i8_nI, true_and, and_true, false_implies, true_implies, not_false_eq_true, not_true_eq_false, ne_eq, implies_true, Nat.not_lt_zero, Nat.zero_le, ite_min, max0, Nat.reduceLT, Nat.reduceLeDiff, Nat.reduceEqDiff, Nat.reduceAdd, Nat.reduceMul, Nat.add_zero, Nat.zero_add, i29, i28]
          try simp only [m1u]
          refine ⟨fun _ ae => RX.i rfl (RMof I2 A1 W1 0 (-1) S _ ⟨h.1.1, h.1.2.1.cong h.1.1.1.1.1 w4, ?_, h.1.2.2.2.1, (i2 23 (by omega)).trans h.1.2.2.2.2⟩ (by rw [hI2, upd_ap, if_neg (by omega), upd_ap, if_neg (by omega), upd_ap, if_pos rfl]) (by rw [hI2, upd_ap, if_neg (by omega), upd_ap, if_pos rfl]; rfl) (by rw [hI2, upd_ap, if_pos rfl]) (i2 2 (by omega)) g8), fun q => absurd (Nat.le_refl _) q⟩
          refine ⟨ls, ksA (A1 35), vsA (A1 35), fun l => (A1 34 (3 * l)).toNatClampNeg, fun l => (A1 34 (3 * l + 1)).toNatClampNeg, fun l => (A1 34 (3 * l + 2)).toNatClampNeg, c, ⟨w1, g1⟩, ⟨rfl, rfl⟩, by omega, fun i _ hi => ?_, fun l e co hl => ?_⟩
          · have := g4 i hi
            rw [w3 (2 * i) (by omega), show 255 + 2 * i + 1 = 255 + (2 * i + 1) by omega, w3 (2 * i + 1) (by omega)]
            exact this
          · obtain ⟨b, m, t, y1, ⟨y2, y3⟩, ⟨y4, y5, y6⟩, y7, y8⟩ := g9 l (e, co) hl
            have hll : l < ls.length := (List.getElem?_eq_some_iff.mp hl).1
            obtain ⟨v1, v2, v3⟩ := w2 l hll
            have eb : (nI b).toNatClampNeg = b := nI_clamp (by omega)
            have em : (nI m).toNatClampNeg = m := nI_clamp (by omega)
            have et : (nI t).toNatClampNeg = t := nI_clamp (by omega)
            simp only [y4, y5, y6, eb, em, et]
            refine ⟨⟨by rw [v1, y4], by rw [v2, y5], by rw [v3, y6]⟩, ⟨y2, y3, y1⟩, fun F => y7 F [], ?_⟩
            cases co with
            | none => exact y8
            | some bb => exact ⟨y8.1, fun F => y8.2 F []⟩
        | succ m ih =>
          intro x W1 hx w1 w2 w3 w4
          have hx1 : ¬ 2 * c ≤ x := by omega
          refine wpC_sound (PC_ok hG _) (by rw [hi]; exact ok_X9_text) (hd := [24, 26, 41, 112, 186]) 400 _ _ _ _ _ _ ?_
          simp only [wp, stp, List.mem_cons, List.not_mem_nil, Nat.reduceEqDiff, or_false, or_self, false_or, or_true, true_or, Nat.reduceAdd, ↓reduceIte, List.getElem?_cons_zero, List.getElem?_cons_succ, nthV, List.set_cons_zero, List.set_cons_succ, noL, popA, catS, Value.category, List.length_cons, List.length_nil, Nat.reduceLT, Nat.reduceLeDiff, true_and, and_true, one0, zer1, imp_t, imp_f, ofN_nI, sdead, f20, f21, not_true_eq_false, upC_ap, upC_upC, retC, fitC, isRefT, Option.toList_some, Option.toList_none, List.cons_append, List.nil_append, Nat.lt_add_one, Nat.zero_lt_succ, Nat.le_refl, Nat.add_zero, Nat.zero_add, Nat.one_ne_zero, Nat.zero_ne_one, Nat.lt_irrefl, List.length_set, fa_X9_text, hi, hd, hQ, mr_X9_text, i29, hx1, mM_31, mM_32, mM_33, mM_34, mM_35, mM_36, mM_37, mM_38, mM_39, mM_40, mM_41, mM_42, mM_43, mM_44, mM_45, mM_46, mM_47, mM_48, mu_31, mu_32, mu_33, mu_34, mu_35, mu_36, mu_37, mu_38, mu_39, mu_40, mu_41, mu_42, mu_43, mu_44, mu_45, mu_46, mu_47, mu_48, mO_len, mg_0, mg_1, mg_2, mg_3, mg_4, mg_5, mg_6, mg_7, mg_8, mg_9, mg_10, mg_11, mg_12, mg_13, mg_14, mg_15, mg_16, mg_17, mg_18, mg_19, mg_20, mg_21, mg_22, mg_23, mg_24, mg_25, mg_26, mg_27, mg_28, mg_29, mg_30, mg_31, mg_32, mg_33, mg_34, mg_35, ms_2, ms_8, ms_9, ms_10, ms_11, ms_12, ms_13, ms_14, ms_15, ms_16, ms_17, ms_18, ms_19, ms_22, ms_23, ms_32, ms_33, ms_34, ms_35, cN_0, vN_0, cN_1, vN_1, cN_2, vN_2, cN_3, vN_3, cN_4, vN_4, cN_5, vN_5, cN_6, vN_6, cN_7, vN_7, cN_8, vN_8, cN_9, vN_9, cN_190, vN_190, wpC, stpC, PC, PV, reduceCtorEq]
          try simp only [m1f]
          try simp (disch := omega) only [nmod, nI_leI, nI_ltI, nI_eq, nI_clamp, vin_nI, nI_1, fa_lit, nI_add, nI_rm3, nI_rm2, pk_rem, pk_mul, pk_sub, pk_div, nI_eM, nI_Me, nI_pM, nI_pMz, nI_pM0, M1_lt, M1_le, nI_ltM, nI_leM, i8_nI, true_and, and_true, false_implies, true_implies, not_false_eq_true, not_true_eq_false, ne_eq, implies_true, Nat.not_lt_zero, Nat.zero_le, ite_min, max0, Nat.reduceLT, Nat.reduceLeDiff, Nat.reduceEqDiff, Nat.reduceAdd, Nat.reduceMul, Nat.add_zero, Nat.zero_add, i29, hx1]
          try simp only [m1u]
          refine ⟨by omega, by omega, ih _ _ (by omega) (by rw [upd_ap, if_neg (by omega)]; exact w1) (fun l hl => ?_) (fun y hy => ?_) (fun i hi => by rw [upd_ap, if_neg (by omega)]; exact w4 i hi)⟩
          · rw [upd_ap, if_neg (by omega), upd_ap, if_neg (by omega), upd_ap, if_neg (by omega)]; exact w2 l hl
          · rw [upd_ap]
            by_cases q : y = x
            · rw [if_pos (by omega), q]
            · rw [if_neg (by omega)]; exact w3 y (by omega)
      have lop1 : ∀ m x W1, x + m = ls.length → (W1 190 = nI ls.length) → (∀ l, l < x → W1 (195 + l) = A1 34 (3 * l) ∧ W1 (215 + l) = A1 34 (3 * l + 1) ∧ W1 (235 + l) = A1 34 (3 * l + 2)) → (∀ i, i < 190 → W1 i = W i) → V G X 112 [.ref 31, .int 1, .int (nI x)] [] n z (mM f0 I2 W1 A1 s) := by
        intro m
        induction m with
        | zero =>
          intro x W1 hx w1 w2 w4
          have : x = ls.length := by omega
          subst this
          refine wpC_sound (PC_ok hG _) (by rw [hi]; exact ok_X9_text) (hd := [24, 26, 41, 112, 186]) 400 _ _ _ _ _ _ ?_
          simp only [wp, stp, List.mem_cons, List.not_mem_nil, Nat.reduceEqDiff, or_false, or_self, false_or, or_true, true_or, Nat.reduceAdd, ↓reduceIte, List.getElem?_cons_zero, List.getElem?_cons_succ, nthV, List.set_cons_zero, List.set_cons_succ, noL, popA, catS, Value.category, List.length_cons, List.length_nil, Nat.reduceLT, Nat.reduceLeDiff, true_and, and_true, one0, zer1, imp_t, imp_f, ofN_nI, sdead, f20, f21, not_true_eq_false, upC_ap, upC_upC, retC, fitC, isRefT, Option.toList_some, Option.toList_none, List.cons_append, List.nil_append, Nat.lt_add_one, Nat.zero_lt_succ, Nat.le_refl, Nat.add_zero, Nat.zero_add, Nat.one_ne_zero, Nat.zero_ne_one, Nat.lt_irrefl, List.length_set, fa_X9_text, hi, hd, hQ, mr_X9_text, i28, mM_31, mM_32, mM_33, mM_34, mM_35, mM_36, mM_37, mM_38, mM_39, mM_40, mM_41, mM_42, mM_43, mM_44, mM_45, mM_46, mM_47, mM_48, mu_31, mu_32, mu_33, mu_34, mu_35, mu_36, mu_37, mu_38, mu_39, mu_40, mu_41, mu_42, mu_43, mu_44, mu_45, mu_46, mu_47, mu_48, mO_len, mg_0, mg_1, mg_2, mg_3, mg_4, mg_5, mg_6, mg_7, mg_8, mg_9, mg_10, mg_11, mg_12, mg_13, mg_14, mg_15, mg_16, mg_17, mg_18, mg_19, mg_20, mg_21, mg_22, mg_23, mg_24, mg_25, mg_26, mg_27, mg_28, mg_29, mg_30, mg_31, mg_32, mg_33, mg_34, mg_35, ms_2, ms_8, ms_9, ms_10, ms_11, ms_12, ms_13, ms_14, ms_15, ms_16, ms_17, ms_18, ms_19, ms_22, ms_23, ms_32, ms_33, ms_34, ms_35, cN_0, vN_0, cN_1, vN_1, cN_2, vN_2, cN_3, vN_3, cN_4, vN_4, cN_5, vN_5, cN_6, vN_6, cN_7, vN_7, cN_8, vN_8, cN_9, vN_9, cN_190, vN_190, wpC, stpC, PC, PV, reduceCtorEq]
          try simp only [m1f]
          try simp (disch := omega) only [nmod, nI_leI, nI_ltI, nI_eq, nI_clamp, vin_nI, nI_1, fa_lit, nI_add, nI_rm3, nI_rm2, pk_rem, pk_mul, pk_sub, pk_div, nI_eM, nI_Me, nI_pM, nI_pMz, nI_pM0, M1_lt, M1_le, nI_ltM, nI_leM, i8_nI, true_and, and_true, false_implies, true_implies, not_false_eq_true, not_true_eq_false, ne_eq, implies_true, Nat.not_lt_zero, Nat.zero_le, ite_min, max0, Nat.reduceLT, Nat.reduceLeDiff, Nat.reduceEqDiff, Nat.reduceAdd, Nat.reduceMul, Nat.add_zero, Nat.zero_add, i28]
          try simp only [m1u]
          exact ⟨fun _ => lop2 (2 * c) 0 W1 (by omega) w1 w2 (fun y hy => absurd hy (by omega)) w4, fun q => absurd (Nat.le_refl _) q⟩
        | succ m ih =>
          intro x W1 hx w1 w2 w4
          have hx1 : ¬ ls.length ≤ x := by omega
          refine wpC_sound (PC_ok hG _) (by rw [hi]; exact ok_X9_text) (hd := [24, 26, 41, 112, 186]) 400 _ _ _ _ _ _ ?_
          simp only [wp, stp, List.mem_cons, List.not_mem_nil, Nat.reduceEqDiff, or_false, or_self, false_or, or_true, true_or, Nat.reduceAdd, ↓reduceIte, List.getElem?_cons_zero, List.getElem?_cons_succ, nthV, List.set_cons_zero, List.set_cons_succ, noL, popA, catS, Value.category, List.length_cons, List.length_nil, Nat.reduceLT, Nat.reduceLeDiff, true_and, and_true, one0, zer1, imp_t, imp_f, ofN_nI, sdead, f20, f21, not_true_eq_false, upC_ap, upC_upC, retC, fitC, isRefT, Option.toList_some, Option.toList_none, List.cons_append, List.nil_append, Nat.lt_add_one, Nat.zero_lt_succ, Nat.le_refl, Nat.add_zero, Nat.zero_add, Nat.one_ne_zero, Nat.zero_ne_one, Nat.lt_irrefl, List.length_set, fa_X9_text, hi, hd, hQ, mr_X9_text, i28, hx1, mM_31, mM_32, mM_33, mM_34, mM_35, mM_36, mM_37, mM_38, mM_39, mM_40, mM_41, mM_42, mM_43, mM_44, mM_45, mM_46, mM_47, mM_48, mu_31, mu_32, mu_33, mu_34, mu_35, mu_36, mu_37, mu_38, mu_39, mu_40, mu_41, mu_42, mu_43, mu_44, mu_45, mu_46, mu_47, mu_48, mO_len, mg_0, mg_1, mg_2, mg_3, mg_4, mg_5, mg_6, mg_7, mg_8, mg_9, mg_10, mg_11, mg_12, mg_13, mg_14, mg_15, mg_16, mg_17, mg_18, mg_19, mg_20, mg_21, mg_22, mg_23, mg_24, mg_25, mg_26, mg_27, mg_28, mg_29, mg_30, mg_31, mg_32, mg_33, mg_34, mg_35, ms_2, ms_8, ms_9, ms_10, ms_11, ms_12, ms_13, ms_14, ms_15, ms_16, ms_17, ms_18, ms_19, ms_22, ms_23, ms_32, ms_33, ms_34, ms_35, cN_0, vN_0, cN_1, vN_1, cN_2, vN_2, cN_3, vN_3, cN_4, vN_4, cN_5, vN_5, cN_6, vN_6, cN_7, vN_7, cN_8, vN_8, cN_9, vN_9, cN_190, vN_190, wpC, stpC, PC, PV, reduceCtorEq]
          try simp only [m1f]
          try simp (disch := omega) only [nmod, nI_leI, nI_ltI, nI_eq, nI_clamp, vin_nI, nI_1, fa_lit, nI_add, nI_rm3, nI_rm2, pk_rem, pk_mul, pk_sub, pk_div, nI_eM, nI_Me, nI_pM, nI_pMz, nI_pM0, M1_lt, M1_le, nI_ltM, nI_leM, i8_nI, true_and, and_true, false_implies, true_implies, not_false_eq_true, not_true_eq_false, ne_eq, implies_true, Nat.not_lt_zero, Nat.zero_le, ite_min, max0, Nat.reduceLT, Nat.reduceLeDiff, Nat.reduceEqDiff, Nat.reduceAdd, Nat.reduceMul, Nat.add_zero, Nat.zero_add, i28, hx1]
          try simp only [m1u]
          refine ⟨by omega, by omega, by omega, by omega, by omega, by omega, ih _ _ (by omega) (by rw [upd_ap, if_neg (by omega), upd_ap, if_neg (by omega), upd_ap, if_neg (by omega)]; exact w1) (fun l hl => ?_) (fun i hi => by rw [upd_ap, if_neg (by omega), upd_ap, if_neg (by omega), upd_ap, if_neg (by omega)]; exact w4 i hi)⟩
          by_cases q : l = x
          · subst q
            exact ⟨by rw [upd_ap, if_neg (by omega), upd_ap, if_neg (by omega), upd_ap, if_pos rfl], by rw [upd_ap, if_neg (by omega), upd_ap, if_pos rfl], by rw [upd_ap, if_pos rfl]⟩
          · rw [upd_ap, if_neg (by omega), upd_ap, if_neg (by omega), upd_ap, if_neg (by omega), upd_ap, if_neg (by omega), upd_ap, if_neg (by omega), upd_ap, if_neg (by omega), upd_ap, if_neg (by omega), upd_ap, if_neg (by omega), upd_ap, if_neg (by omega)]
            exact w2 l (by omega)
      have l1 := lop1 ls.length 0 (upd W 190 (nI ls.length)) (by omega) (by rw [upd_ap, if_pos rfl]) (fun l hl => absurd hl (by omega)) (fun i hi => by rw [upd_ap, if_neg (by omega)])
      rw [hI2] at l1 i28
      have i15 : upd I1 10 (nI 0) 15 = nI 0 := by rw [upd_ap, if_neg (by omega)]; exact g6
      refine wpC_sound (PC_ok hG _) (by rw [hi]; exact ok_X9_text) (hd := [24, 26, 41, 112, 186]) 400 _ _ _ _ _ _ ?_
      simp only [wp, stp, List.mem_cons, List.not_mem_nil, Nat.reduceEqDiff, or_false, or_self, false_or, or_true, true_or, Nat.reduceAdd, ↓reduceIte, List.getElem?_cons_zero, List.getElem?_cons_succ, nthV, List.set_cons_zero, List.set_cons_succ, noL, popA, catS, Value.category, List.length_cons, List.length_nil, Nat.reduceLT, Nat.reduceLeDiff, true_and, and_true, one0, zer1, imp_t, imp_f, ofN_nI, sdead, f20, f21, not_true_eq_false, upC_ap, upC_upC, retC, fitC, isRefT, Option.toList_some, Option.toList_none, List.cons_append, List.nil_append, Nat.lt_add_one, Nat.zero_lt_succ, Nat.le_refl, Nat.add_zero, Nat.zero_add, Nat.one_ne_zero, Nat.zero_ne_one, Nat.lt_irrefl, List.length_set, fa_X9_text, hi, hd, hQ, mr_X9_text, i15, mM_31, mM_32, mM_33, mM_34, mM_35, mM_36, mM_37, mM_38, mM_39, mM_40, mM_41, mM_42, mM_43, mM_44, mM_45, mM_46, mM_47, mM_48, mu_31, mu_32, mu_33, mu_34, mu_35, mu_36, mu_37, mu_38, mu_39, mu_40, mu_41, mu_42, mu_43, mu_44, mu_45, mu_46, mu_47, mu_48, mO_len, mg_0, mg_1, mg_2, mg_3, mg_4, mg_5, mg_6, mg_7, mg_8, mg_9, mg_10, mg_11, mg_12, mg_13, mg_14, mg_15, mg_16, mg_17, mg_18, mg_19, mg_20, mg_21, mg_22, mg_23, mg_24, mg_25, mg_26, mg_27, mg_28, mg_29, mg_30, mg_31, mg_32, mg_33, mg_34, mg_35, ms_2, ms_8, ms_9, ms_10, ms_11, ms_12, ms_13, ms_14, ms_15, ms_16, ms_17, ms_18, ms_19, ms_22, ms_23, ms_32, ms_33, ms_34, ms_35, cN_0, vN_0, cN_1, vN_1, cN_2, vN_2, cN_3, vN_3, cN_4, vN_4, cN_5, vN_5, cN_6, vN_6, cN_7, vN_7, cN_8, vN_8, cN_9, vN_9, cN_190, vN_190, wpC, stpC, PC, PV, reduceCtorEq]
      try simp only [m1f]
      try simp (disch := omega) only [nmod, nI_leI, nI_ltI, nI_eq, nI_clamp, vin_nI, nI_1, fa_lit, nI_add, nI_rm3, nI_rm2, pk_rem, pk_mul, pk_sub, pk_div, nI_eM, nI_Me, nI_pM, nI_pMz, nI_pM0, M1_lt, M1_le, nI_ltM, nI_leM, i8_nI, true_and, and_true, false_implies, true_implies, not_false_eq_true, not_true_eq_false, ne_eq, implies_true, Nat.not_lt_zero, Nat.zero_le, ite_min, max0, Nat.reduceLT, Nat.reduceLeDiff, Nat.reduceEqDiff, Nat.reduceAdd, Nat.reduceMul, Nat.add_zero, Nat.zero_add, i15]
      try simp only [m1u]
      rw [i28]
      exact l1
    -- a bad end
    have bad : ∀ I1 A1 why jx, (∀ i, (i < 8 ∨ i = 10 ∨ i = 17 ∨ 18 < i) → I1 i = I i) → (∀ j, ¬ j = 35 → ¬ j = 34 → A1 j = A j) → I1 15 = nI why → I1 16 = nI (sqT tb tl jx) → R = .inl (why, jx) → ∀ u2, V G X 26 [.ref 31, .int 0, u2] [] n z (mM f0 I1 W A1 s) := by
      intro I1 A1 why jx g7 g8 g15 g16 g10 u2
      rw [g10] at hQ
      have i15 : upd I1 10 0 15 = nI why := by rw [upd_ap, if_neg (by omega)]; exact g15
      have i16 : upd (upd I1 10 0) 17 (nI why) 16 = nI (sqT tb tl jx) := by rw [upd_ap, if_neg (by omega), upd_ap, if_neg (by omega)]; exact g16
      refine wp_sound (by rw [hi]; exact ok_X9_text) (hd := [24, 26, 41, 112, 186]) 400 _ _ _ _ _ _ ?_
      simp only [wp, stp, List.mem_cons, List.not_mem_nil, Nat.reduceEqDiff, or_false, or_self, false_or, or_true, true_or, Nat.reduceAdd, ↓reduceIte, List.getElem?_cons_zero, List.getElem?_cons_succ, nthV, List.set_cons_zero, List.set_cons_succ, noL, popA, catS, Value.category, List.length_cons, List.length_nil, Nat.reduceLT, Nat.reduceLeDiff, true_and, and_true, one0, zer1, imp_t, imp_f, ofN_nI, sdead, f20, f21, not_true_eq_false, upC_ap, upC_upC, retC, fitC, isRefT, Option.toList_some, Option.toList_none, List.cons_append, List.nil_append, Nat.lt_add_one, Nat.zero_lt_succ, Nat.le_refl, Nat.add_zero, Nat.zero_add, Nat.one_ne_zero, Nat.zero_ne_one, Nat.lt_irrefl, List.length_set, fa_X9_text, hi, hd, hQ, mr_X9_text, i15, i16, true_implies, mM_31, mM_32, mM_33, mM_34, mM_35, mM_36, mM_37, mM_38, mM_39, mM_40, mM_41, mM_42, mM_43, mM_44, mM_45, mM_46, mM_47, mM_48, mu_31, mu_32, mu_33, mu_34, mu_35, mu_36, mu_37, mu_38, mu_39, mu_40, mu_41, mu_42, mu_43, mu_44, mu_45, mu_46, mu_47, mu_48, mO_len, mg_0, mg_1, mg_2, mg_3, mg_4, mg_5, mg_6, mg_7, mg_8, mg_9, mg_10, mg_11, mg_12, mg_13, mg_14, mg_15, mg_16, mg_17, mg_18, mg_19, mg_20, mg_21, mg_22, mg_23, mg_24, mg_25, mg_26, mg_27, mg_28, mg_29, mg_30, mg_31, mg_32, mg_33, mg_34, mg_35, ms_2, ms_8, ms_9, ms_10, ms_11, ms_12, ms_13, ms_14, ms_15, ms_16, ms_17, ms_18, ms_19, ms_22, ms_23, ms_32, ms_33, ms_34, ms_35, cN_0, vN_0, cN_1, vN_1, cN_2, vN_2, cN_3, vN_3, cN_4, vN_4, cN_5, vN_5, cN_6, vN_6, cN_7, vN_7, cN_8, vN_8, cN_9, vN_9, cN_190, vN_190]
      refine RX.i rfl (RMof _ A1 W (nI why) (nI (sqT tb tl jx)) S L ⟨h.1.1, h.1.2.1, h.1.2.2.1, h.1.2.2.2.1, ?_⟩ (by rw [upd_ap, if_neg (by omega), upd_ap, if_neg (by omega), upd_ap, if_pos rfl]; rfl) (by rw [upd_ap, if_neg (by omega), upd_ap, if_pos rfl]) (by rw [upd_ap, if_pos rfl]) (by rw [upd_ap, if_neg (by omega), upd_ap, if_neg (by omega), upd_ap, if_neg (by omega)]; exact g7 2 (by omega)) g8)
      rw [upd_ap, if_neg (by omega), upd_ap, if_neg (by omega), upd_ap, if_neg (by omega), g7 23 (by omega)]; exact h.1.2.2.2.2
    have step : ∀ (ls : Lns) I1 A1 k c, ls.length ≤ 16 → HR tb tl T f0 I1 A1 → PZ tb tl T 0 I1 A1 k c → I1 8 = nI ls.length → I1 15 = nI 0 → (∀ i, (i < 8 ∨ i = 10 ∨ i = 17 ∨ 18 < i) → I1 i = I i) → (∀ j, ¬ j = 35 → ¬ j = 34 → A1 j = A j) → LsA (A1 34) (A1 35) ls c → R = pLw K U (17 - ls.length) k ls →
        (ls.length < 16 → ∀ ln I2 A2 k2 c2, HR tb tl T f0 I2 A2 → PZ tb tl T 0 I2 A2 k2 c2 → I2 8 = nI (ls.length + 1) → I2 15 = nI 0 → (∀ i, (i < 8 ∨ i = 10 ∨ i = 17 ∨ 18 < i) → I2 i = I i) → (∀ j, ¬ j = 35 → ¬ j = 34 → A2 j = A j) → LsA (A2 34) (A2 35) (ls ++ [ln]) c2 → R = pLw K U (17 - (ls.length + 1)) k2 (ls ++ [ln]) → ∀ u2, V G X 26 [.ref 31, .int 1, u2] [] n z (mM f0 I2 W A2 s)) → ∀ u2, V G X 26 [.ref 31, .int 1, u2] [] n z (mM f0 I1 W A1 s) := by
      intro ls I1 A1 k c hls gH gP g8 g15 gI gA gL gR hnx u2
      obtain ⟨gp, g9, ⟨gck, gkT⟩, gSt⟩ := id gP
      obtain ⟨R1, r1, r2, r3, r4, r5, r6⟩ := gp.tok hTk gkT
      have kw := (tkR_kw r5).2.2.2.2.2
      rw [← r3, ← hK] at kw
      rw [show 17 - ls.length = (16 - ls.length) + 1 by omega, pLw] at gR
      by_cases q57 : K k = 257
      · rw [if_pos q57] at gR
        have e12 : I1 12 = 0 := by rw [r1, kw.mpr q57]; rfl
        have := fin ls I1 A1 k c hls (by omega) g9 gSt g8 g15 gI gA gL gR
        refine wp_sound (by rw [hi]; exact ok_X9_text) (hd := [24, 26, 41, 63, 112, 186]) 400 _ _ _ _ _ _ ?_
        simp only [wp, stp, List.mem_cons, List.not_mem_nil, Nat.reduceEqDiff, or_false, or_self, false_or, or_true, true_or, Nat.reduceAdd, ↓reduceIte, List.getElem?_cons_zero, List.getElem?_cons_succ, nthV, List.set_cons_zero, List.set_cons_succ, noL, popA, catS, Value.category, List.length_cons, List.length_nil, Nat.reduceLT, Nat.reduceLeDiff, true_and, and_true, one0, zer1, imp_t, imp_f, ofN_nI, sdead, f20, f21, not_true_eq_false, upC_ap, upC_upC, retC, fitC, isRefT, Option.toList_some, Option.toList_none, List.cons_append, List.nil_append, Nat.lt_add_one, Nat.zero_lt_succ, Nat.le_refl, Nat.add_zero, Nat.zero_add, Nat.one_ne_zero, Nat.zero_ne_one, Nat.lt_irrefl, List.length_set, fa_X9_text, hi, hd, hQ, mr_X9_text, e12, true_implies, mM_31, mM_32, mM_33, mM_34, mM_35, mM_36, mM_37, mM_38, mM_39, mM_40, mM_41, mM_42, mM_43, mM_44, mM_45, mM_46, mM_47, mM_48, mu_31, mu_32, mu_33, mu_34, mu_35, mu_36, mu_37, mu_38, mu_39, mu_40, mu_41, mu_42, mu_43, mu_44, mu_45, mu_46, mu_47, mu_48, mO_len, mg_0, mg_1, mg_2, mg_3, mg_4, mg_5, mg_6, mg_7, mg_8, mg_9, mg_10, mg_11, mg_12, mg_13, mg_14, mg_15, mg_16, mg_17, mg_18, mg_19, mg_20, mg_21, mg_22, mg_23, mg_24, mg_25, mg_26, mg_27, mg_28, mg_29, mg_30, mg_31, mg_32, mg_33, mg_34, mg_35, ms_2, ms_8, ms_9, ms_10, ms_11, ms_12, ms_13, ms_14, ms_15, ms_16, ms_17, ms_18, ms_19, ms_22, ms_23, ms_32, ms_33, ms_34, ms_35, cN_0, vN_0, cN_1, vN_1, cN_2, vN_2, cN_3, vN_3, cN_4, vN_4, cN_5, vN_5, cN_6, vN_6, cN_7, vN_7, cN_8, vN_8, cN_9, vN_9, cN_190, vN_190]
        exact this _
      · rw [if_neg q57] at gR
        have hne : ¬ nI R1 = 0 := fun q => q57 (kw.mp ((nI_eq (b := 0) (by omega) (by omega)).mp q))
        refine wp_sound (by rw [hi]; exact ok_X9_text) (hd := [24, 26, 41, 63, 112, 186]) 400 _ _ _ _ _ _ ?_
        simp only [wp, stp, List.mem_cons, List.not_mem_nil, Nat.reduceEqDiff, or_false, or_self, false_or, or_true, true_or, Nat.reduceAdd, ↓reduceIte, List.getElem?_cons_zero, List.getElem?_cons_succ, nthV, List.set_cons_zero, List.set_cons_succ, noL, popA, catS, Value.category, List.length_cons, List.length_nil, Nat.reduceLT, Nat.reduceLeDiff, true_and, and_true, one0, zer1, imp_t, imp_f, ofN_nI, sdead, f20, f21, not_true_eq_false, upC_ap, upC_upC, retC, fitC, isRefT, Option.toList_some, Option.toList_none, List.cons_append, List.nil_append, Nat.lt_add_one, Nat.zero_lt_succ, Nat.le_refl, Nat.add_zero, Nat.zero_add, Nat.one_ne_zero, Nat.zero_ne_one, Nat.lt_irrefl, List.length_set, fa_X9_text, hi, hd, hQ, mr_X9_text, r1, hne, true_implies, mM_31, mM_32, mM_33, mM_34, mM_35, mM_36, mM_37, mM_38, mM_39, mM_40, mM_41, mM_42, mM_43, mM_44, mM_45, mM_46, mM_47, mM_48, mu_31, mu_32, mu_33, mu_34, mu_35, mu_36, mu_37, mu_38, mu_39, mu_40, mu_41, mu_42, mu_43, mu_44, mu_45, mu_46, mu_47, mu_48, mO_len, mg_0, mg_1, mg_2, mg_3, mg_4, mg_5, mg_6, mg_7, mg_8, mg_9, mg_10, mg_11, mg_12, mg_13, mg_14, mg_15, mg_16, mg_17, mg_18, mg_19, mg_20, mg_21, mg_22, mg_23, mg_24, mg_25, mg_26, mg_27, mg_28, mg_29, mg_30, mg_31, mg_32, mg_33, mg_34, mg_35, ms_2, ms_8, ms_9, ms_10, ms_11, ms_12, ms_13, ms_14, ms_15, ms_16, ms_17, ms_18, ms_19, ms_22, ms_23, ms_32, ms_33, ms_34, ms_35, cN_0, vN_0, cN_1, vN_1, cN_2, vN_2, cN_3, vN_3, cN_4, vN_4, cN_5, vN_5, cN_6, vN_6, cN_7, vN_7, cN_8, vN_8, cN_9, vN_9, cN_190, vN_190]
        refine ⟨by omega, _, t9_aLine hG (by omega) gH gP hls g8, ?_⟩
        intro v n2 z2 f2 hr
        rw [← hK, ← hU] at hr
        have er : ∀ why jx, (if K k = 260 then (if ls.length = 16 then .inl (3, k) else pLn K U k) else (.inl (1, k) : Res (EV × Option BV))) = .inl (why, jx) → R = .inl (why, jx) := fun why jx he => by
          rw [gR]
          by_cases q6 : K k = 260
          · rw [if_pos q6] at he ⊢
            by_cases q16 : ls.length = 16
            · rw [if_pos q16] at he ⊢; cases he; rfl
            · rw [if_neg q16] at he ⊢; rw [he]
          · rw [if_neg q6] at he ⊢; cases he; rfl
        cases hu : (if K k = 260 then (if ls.length = 16 then .inl (3, k) else pLn K U k) else (.inl (1, k) : Res (EV × Option BV))) with
        | inl e =>
          obtain ⟨why, jx⟩ := e
          rw [hu] at hr
          obtain ⟨rfl, rfl, I3, A3, rfl, a1, a2, a3, rfl, a4, a5, a6⟩ := hr
          have i38 : I3 8 = nI ls.length := (a4 8 (by omega)).trans g8
          refine wp_sound (by rw [hi]; exact ok_X9_text) (hd := [24, 26, 41, 63, 112, 186]) 400 _ _ _ _ _ _ ?_
          simp only [wp, stp, List.mem_cons, List.not_mem_nil, Nat.reduceEqDiff, or_false, or_self, false_or, or_true, true_or, Nat.reduceAdd, ↓reduceIte, List.getElem?_cons_zero, List.getElem?_cons_succ, nthV, List.set_cons_zero, List.set_cons_succ, noL, popA, catS, Value.category, List.length_cons, List.length_nil, Nat.reduceLT, Nat.reduceLeDiff, true_and, and_true, one0, zer1, imp_t, imp_f, ofN_nI, sdead, f20, f21, not_true_eq_false, upC_ap, upC_upC, retC, fitC, isRefT, Option.toList_some, Option.toList_none, List.cons_append, List.nil_append, Nat.lt_add_one, Nat.zero_lt_succ, Nat.le_refl, Nat.add_zero, Nat.zero_add, Nat.one_ne_zero, Nat.zero_ne_one, Nat.lt_irrefl, List.length_set, fa_X9_text, hi, hd, hQ, mr_X9_text, true_implies, mM_31, mM_32, mM_33, mM_34, mM_35, mM_36, mM_37, mM_38, mM_39, mM_40, mM_41, mM_42, mM_43, mM_44, mM_45, mM_46, mM_47, mM_48, mu_31, mu_32, mu_33, mu_34, mu_35, mu_36, mu_37, mu_38, mu_39, mu_40, mu_41, mu_42, mu_43, mu_44, mu_45, mu_46, mu_47, mu_48, mO_len, mg_0, mg_1, mg_2, mg_3, mg_4, mg_5, mg_6, mg_7, mg_8, mg_9, mg_10, mg_11, mg_12, mg_13, mg_14, mg_15, mg_16, mg_17, mg_18, mg_19, mg_20, mg_21, mg_22, mg_23, mg_24, mg_25, mg_26, mg_27, mg_28, mg_29, mg_30, mg_31, mg_32, mg_33, mg_34, mg_35, ms_2, ms_8, ms_9, ms_10, ms_11, ms_12, ms_13, ms_14, ms_15, ms_16, ms_17, ms_18, ms_19, ms_22, ms_23, ms_32, ms_33, ms_34, ms_35, cN_0, vN_0, cN_1, vN_1, cN_2, vN_2, cN_3, vN_3, cN_4, vN_4, cN_5, vN_5, cN_6, vN_6, cN_7, vN_7, cN_8, vN_8, cN_9, vN_9, cN_190, vN_190]
          exact bad _ A3 why jx (fun i hi => by rw [upd_ap, if_neg (by omega), a4 i (by omega)]; exact gI i hi) (fun j x y => by rw [a1 j x y]; exact gA j x y) (by rw [upd_ap, if_neg (by omega)]; exact a5) (by rw [upd_ap, if_neg (by omega)]; exact a6) (er why jx hu) _
        | inr q =>
          obtain ⟨k2, ln⟩ := q
          have q6 : K k = 260 := Decidable.byContradiction fun q => by rw [if_neg q] at hu; cases hu
          rw [if_pos q6] at hu gR
          have q16 : ¬ ls.length = 16 := fun q => by rw [if_pos q] at hu; cases hu
          rw [if_neg q16] at hu gR
          rw [if_pos q6, if_neg q16, hu] at hr
          rw [hu] at gR
          obtain ⟨rfl, rfl, I3, A3, rfl, a1, a2, a3, rfl, a4, m, t, a5, a6, a7⟩ := hr
          obtain ⟨b1, b2, b3, b4⟩ := id a5
          have i38 : I3 8 = nI ls.length := (a4 8 (by omega)).trans g8
          have hl1 : nI ls.length + 1 = nI (ls.length + 1) := nI_1 _
          refine wp_sound (by rw [hi]; exact ok_X9_text) (hd := [24, 26, 41, 63, 112, 186]) 400 _ _ _ _ _ _ ?_
          simp only [wp, stp, List.mem_cons, List.not_mem_nil, Nat.reduceEqDiff, or_false, or_self, false_or, or_true, true_or, Nat.reduceAdd, ↓reduceIte, List.getElem?_cons_zero, List.getElem?_cons_succ, nthV, List.set_cons_zero, List.set_cons_succ, noL, popA, catS, Value.category, List.length_cons, List.length_nil, Nat.reduceLT, Nat.reduceLeDiff, true_and, and_true, one0, zer1, imp_t, imp_f, ofN_nI, sdead, f20, f21, not_true_eq_false, upC_ap, upC_upC, retC, fitC, isRefT, Option.toList_some, Option.toList_none, List.cons_append, List.nil_append, Nat.lt_add_one, Nat.zero_lt_succ, Nat.le_refl, Nat.add_zero, Nat.zero_add, Nat.one_ne_zero, Nat.zero_ne_one, Nat.lt_irrefl, List.length_set, fa_X9_text, hi, hd, hQ, mr_X9_text, true_implies, i38, hl1, mM_31, mM_32, mM_33, mM_34, mM_35, mM_36, mM_37, mM_38, mM_39, mM_40, mM_41, mM_42, mM_43, mM_44, mM_45, mM_46, mM_47, mM_48, mu_31, mu_32, mu_33, mu_34, mu_35, mu_36, mu_37, mu_38, mu_39, mu_40, mu_41, mu_42, mu_43, mu_44, mu_45, mu_46, mu_47, mu_48, mO_len, mg_0, mg_1, mg_2, mg_3, mg_4, mg_5, mg_6, mg_7, mg_8, mg_9, mg_10, mg_11, mg_12, mg_13, mg_14, mg_15, mg_16, mg_17, mg_18, mg_19, mg_20, mg_21, mg_22, mg_23, mg_24, mg_25, mg_26, mg_27, mg_28, mg_29, mg_30, mg_31, mg_32, mg_33, mg_34, mg_35, ms_2, ms_8, ms_9, ms_10, ms_11, ms_12, ms_13, ms_14, ms_15, ms_16, ms_17, ms_18, ms_19, ms_22, ms_23, ms_32, ms_33, ms_34, ms_35, cN_0, vN_0, cN_1, vN_1, cN_2, vN_2, cN_3, vN_3, cN_4, vN_4, cN_5, vN_5, cN_6, vN_6, cN_7, vN_7, cN_8, vN_8, cN_9, vN_9, cN_190, vN_190]
          refine hnx (by omega) ln (upd I3 8 (nI (ls.length + 1))) A3 k2 t (gH.cg (by rw [upd_ap, if_neg (by omega)]; exact a4 10 (by omega)) (a1 36 (by omega) (by omega))) ⟨b1.i9 (fun i hi => by rw [upd_ap, if_neg (by omega)]), by rw [upd_ap, if_neg (by omega)]; exact b2, b3, b4⟩ (by rw [upd_ap, if_pos rfl]) (by rw [upd_ap, if_neg (by omega), a4 15 (by omega)]; exact g15) (fun i hi => by rw [upd_ap, if_neg (by omega), a4 i (by omega)]; exact gI i hi) (fun j x y => by rw [a1 j x y]; exact gA j x y) (fun l ln2 hl => ?_) (by rw [show 17 - (ls.length + 1) = 16 - ls.length by omega]; exact gR) _
          have hct : c ≤ t := by have := a7.1; omega
          by_cases ql : l < ls.length
          · rw [List.getElem?_append_left ql] at hl
            obtain ⟨b, m2, t2, y1, y2⟩ := gL l ln2 hl
            exact ⟨b, m2, t2, by omega, y2.cg y1 a2 ql a3⟩
          · rw [List.getElem?_append_right (by omega)] at hl
            have hl0 : l = ls.length := by
              have := (List.getElem?_eq_some_iff.mp hl).1
              simp at this
              omega
            rw [hl0, Nat.sub_self] at hl
            simp at hl
            subst hl hl0
            exact ⟨c, m, t, Nat.le_refl _, a7⟩
    intro j
    induction j with
    | zero =>
      intro ls I1 A1 k c hls gH gP g8 g15 gI gA gL gR u2
      exact step ls I1 A1 k c (by omega) gH gP g8 g15 gI gA gL gR (fun q => absurd q (by omega)) u2
    | succ j ih =>
      intro ls I1 A1 k c hls gH gP g8 g15 gI gA gL gR u2
      refine step ls I1 A1 k c (by omega) gH gP g8 g15 gI gA gL gR (fun q ln I2 A2 k2 c2 x1 x2 x3 x4 x5 x6 x7 x8 u2 => ih (ls ++ [ln]) I2 A2 k2 c2 ?_ x1 x2 ?_ x4 x5 x6 x7 ?_ u2) u2
      · rw [List.length_append]; show ls.length + 1 + j = 16; omega
      · rw [List.length_append]; exact x3
      · rw [List.length_append]; exact x8
  have hT0 : RTq tb tl (upd (upd (upd (upd I 15 0) 11 0) 8 0) 9 0) A := ⟨⟨by rw [upd_ap, if_neg (by omega), upd_ap, if_neg (by omega), upd_ap, if_neg (by omega), upd_ap, if_neg (by omega)]; exact h10, hl4⟩, hT⟩
  refine wp_sound (by rw [hi]; exact ok_X9_text) (hd := [24, 26, 41, 112, 186]) 400 _ _ _ _ _ _ ?_
  simp only [wp, stp, List.mem_cons, List.not_mem_nil, Nat.reduceEqDiff, or_false, or_self, false_or, or_true, true_or, Nat.reduceAdd, ↓reduceIte, List.getElem?_cons_zero, List.getElem?_cons_succ, nthV, List.set_cons_zero, List.set_cons_succ, noL, popA, catS, Value.category, List.length_cons, List.length_nil, Nat.reduceLT, Nat.reduceLeDiff, true_and, and_true, one0, zer1, imp_t, imp_f, ofN_nI, sdead, f20, f21, not_true_eq_false, upC_ap, upC_upC, retC, fitC, isRefT, Option.toList_some, Option.toList_none, List.cons_append, List.nil_append, Nat.lt_add_one, Nat.zero_lt_succ, Nat.le_refl, Nat.add_zero, Nat.zero_add, Nat.one_ne_zero, Nat.zero_ne_one, Nat.lt_irrefl, List.length_set, fa_X9_text, hi, hd, hQ, mr_X9_text, mM_31, mM_32, mM_33, mM_34, mM_35, mM_36, mM_37, mM_38, mM_39, mM_40, mM_41, mM_42, mM_43, mM_44, mM_45, mM_46, mM_47, mM_48, mu_31, mu_32, mu_33, mu_34, mu_35, mu_36, mu_37, mu_38, mu_39, mu_40, mu_41, mu_42, mu_43, mu_44, mu_45, mu_46, mu_47, mu_48, mO_len, mg_0, mg_1, mg_2, mg_3, mg_4, mg_5, mg_6, mg_7, mg_8, mg_9, mg_10, mg_11, mg_12, mg_13, mg_14, mg_15, mg_16, mg_17, mg_18, mg_19, mg_20, mg_21, mg_22, mg_23, mg_24, mg_25, mg_26, mg_27, mg_28, mg_29, mg_30, mg_31, mg_32, mg_33, mg_34, mg_35, ms_2, ms_8, ms_9, ms_10, ms_11, ms_12, ms_13, ms_14, ms_15, ms_16, ms_17, ms_18, ms_19, ms_22, ms_23, ms_32, ms_33, ms_34, ms_35, cN_0, vN_0, cN_1, vN_1, cN_2, vN_2, cN_3, vN_3, cN_4, vN_4, cN_5, vN_5, cN_6, vN_6, cN_7, vN_7, cN_8, vN_8, cN_9, vN_9, cN_190, vN_190]
  refine ⟨by omega, _, t9_next0 hG (by omega) hA0 hT0 (p := 0) (by omega) (by rw [upd_ap, if_neg (by omega), upd_ap, if_neg (by omega), upd_ap, if_pos rfl]; rfl), ?_⟩
  rintro v n1 z1 f1 ⟨rfl, rfl, rfl, I1, rfl, e1, e2⟩
  have hH1 : HR tb tl T f0 I1 A := ⟨hTk, hT0.cg (e1 10 (by omega)), hA0⟩
  have hP1 : PZ tb tl T 0 I1 A 0 0 := ⟨PI9.of rfl hl4 e2, by rw [e1 9 (by omega), upd_ap, if_pos rfl]; rfl, by omega, fun i hi => absurd hi (by omega)⟩
  refine wp_sound (by rw [hi]; exact ok_X9_text) (hd := [24, 26, 41, 112, 186]) 400 _ _ _ _ _ _ ?_
  simp only [wp, stp, List.mem_cons, List.not_mem_nil, Nat.reduceEqDiff, or_false, or_self, false_or, or_true, true_or, Nat.reduceAdd, ↓reduceIte, List.getElem?_cons_zero, List.getElem?_cons_succ, nthV, List.set_cons_zero, List.set_cons_succ, noL, popA, catS, Value.category, List.length_cons, List.length_nil, Nat.reduceLT, Nat.reduceLeDiff, true_and, and_true, one0, zer1, imp_t, imp_f, ofN_nI, sdead, f20, f21, not_true_eq_false, upC_ap, upC_upC, retC, fitC, isRefT, Option.toList_some, Option.toList_none, List.cons_append, List.nil_append, Nat.lt_add_one, Nat.zero_lt_succ, Nat.le_refl, Nat.add_zero, Nat.zero_add, Nat.one_ne_zero, Nat.zero_ne_one, Nat.lt_irrefl, List.length_set, fa_X9_text, hi, hd, hQ, mr_X9_text, mM_31, mM_32, mM_33, mM_34, mM_35, mM_36, mM_37, mM_38, mM_39, mM_40, mM_41, mM_42, mM_43, mM_44, mM_45, mM_46, mM_47, mM_48, mu_31, mu_32, mu_33, mu_34, mu_35, mu_36, mu_37, mu_38, mu_39, mu_40, mu_41, mu_42, mu_43, mu_44, mu_45, mu_46, mu_47, mu_48, mO_len, mg_0, mg_1, mg_2, mg_3, mg_4, mg_5, mg_6, mg_7, mg_8, mg_9, mg_10, mg_11, mg_12, mg_13, mg_14, mg_15, mg_16, mg_17, mg_18, mg_19, mg_20, mg_21, mg_22, mg_23, mg_24, mg_25, mg_26, mg_27, mg_28, mg_29, mg_30, mg_31, mg_32, mg_33, mg_34, mg_35, ms_2, ms_8, ms_9, ms_10, ms_11, ms_12, ms_13, ms_14, ms_15, ms_16, ms_17, ms_18, ms_19, ms_22, ms_23, ms_32, ms_33, ms_34, ms_35, cN_0, vN_0, cN_1, vN_1, cN_2, vN_2, cN_3, vN_3, cN_4, vN_4, cN_5, vN_5, cN_6, vN_6, cN_7, vN_7, cN_8, vN_8, cN_9, vN_9, cN_190, vN_190]
  refine loop 16 [] I1 A 0 0 rfl hH1 hP1 (by rw [e1 8 (by omega), upd_ap, if_neg (by omega), upd_ap, if_pos rfl]; rfl) (by rw [e1 15 (by omega), upd_ap, if_neg (by omega), upd_ap, if_neg (by omega), upd_ap, if_neg (by omega), upd_ap, if_pos rfl]; rfl) (fun i hi => by rw [e1 i (by omega), upd_ap, if_neg (by omega), upd_ap, if_neg (by omega), upd_ap, if_neg (by omega), upd_ap, if_neg (by omega)]) (fun _ _ _ => rfl) (fun l ln hl => by simp at hl) hR _
end Mvs
