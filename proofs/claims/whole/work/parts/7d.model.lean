-- the reference: a tent, the plain, the image
set_option maxRecDepth 100000
set_option maxHeartbeats 4000000
section Mds
variable {G : Gam} {d n z tl : Nat} {f f0 : Mf} {I W : Nat → Int32} {A : Nat → Nat → Int32} {s : Sc} {S S' : Sta} {bs gn : Int32} {L : Lw} {tb : Nat → Nat} {fk fp : Int32} {kp : Option (Sta × Lw)}
def pitW (W : Nat → Int32) (t : Nat) (y fm md : Int32) : Nat → Int32 := upd (upd (upd (upd (upd (upd (upd W (120 + 6 * t) y) (120 + 6 * t + 1) fm) (120 + 6 * t + 2) md) (120 + 6 * t + 3) (nI 0)) (120 + 6 * t + 4) (nI 0)) (120 + 6 * t + 5) (-1)) 3 (nI (t + 1))
theorem WR.pit (h : WR S bs (-1) W) (hB : Bd S) (ht : tn S < 10) {y fm md : Int32} (hy : ¬ y = -1) : WR (pitS S y fm md) bs (-1) (pitW W (tn S) y fm md) := by
  obtain ⟨⟨r1, r2⟩, r3, r4, r5⟩ := h
  have hm6 := hB.2.1.2
  have b1 := hB.1.1
  have et : tn (pitS S y fm md) = tn S + 1 := by
    show (if 0 = 0 then (if 3 = 3 then S 0 3 + 1 else S 0 3) else _).toNatClampNeg = _
    rw [if_pos rfl, if_pos rfl, b1, nI_1, nI_clamp (by omega)]
  have em : mn (pitS S y fm md) = mn S := rfl
  have er : ∀ a t, ¬ a = 0 → ¬ t = tn S → pitS S y fm md a t = S a t := fun a t ha hb => by unfold pitS; rw [if_neg ha, if_neg hb]
  have es : ∀ a, ¬ a = 0 → pitS S y fm md a (tn S) = if a = 2 then y else if a = 3 then fm else if a = 4 then md else if a = 5 then 0 else if a = 6 then 0 else if a = 7 then -1 else S a (tn S) := fun a ha => by unfold pitS; rw [if_neg ha, if_pos rfl]
  have far : ∀ i, ¬ i = 3 → ¬ (120 + 6 * tn S ≤ i ∧ i ≤ 120 + 6 * tn S + 5) → pitW W (tn S) y fm md i = W i := fun i h3 hi => by
    unfold pitW
    rw [upd_ap, if_neg h3, upd_ap, if_neg (by omega), upd_ap, if_neg (by omega), upd_ap, if_neg (by omega), upd_ap, if_neg (by omega), upd_ap, if_neg (by omega), upd_ap, if_neg (by omega)]
  refine ⟨⟨fun i hi => ?_, fun c hc => ?_⟩, fun o ho => ?_, fun j o hj hj6 ho => ?_, fun m hm => ?_⟩
  · by_cases q : i = 3
    · subst q
      unfold pitW
      rw [upd_ap, if_pos rfl]
      show _ = (if 3 = 3 then S 0 3 + 1 else S 0 3)
      rw [if_pos rfl, b1, nI_1]
    · rw [far i q (by omega), r1 i hi]
      show _ = (if i = 3 then S 0 3 + 1 else S 0 i)
      rw [if_neg q]
  · rw [far _ (by omega) (by omega), r2 c hc]
    unfold kB
    by_cases q : c = tn S
    · rw [q, es 1 (by omega)]; rfl
    · rw [er 1 c (by omega) q]
  · rw [et] at ho
    by_cases q : o = tn S
    · subst q
      rw [es 2 (by omega)]
      refine ⟨fun _ => ?_, fun r => absurd r (fun q => (nI_em (by omega)).mp q), fun r => absurd r hy⟩
      unfold pitW
      rw [upd_ap, if_neg (by omega), upd_ap, if_neg (by omega), upd_ap, if_neg (by omega), upd_ap, if_neg (by omega), upd_ap, if_neg (by omega), upd_ap, if_neg (by omega), upd_ap, if_pos rfl]; rfl
    · rw [far _ (by omega) (by omega), er 2 o (by omega) q]; exact r3 o (by omega)
  · rw [et] at ho
    by_cases q : o = tn S
    · subst q
      rw [es (2 + j) (by omega)]
      unfold pitW
      rcases (by omega : j = 1 ∨ j = 2 ∨ j = 3 ∨ j = 4 ∨ j = 5) with e | e | e | e | e <;> subst e
      · rw [upd_ap, if_neg (by omega), upd_ap, if_neg (by omega), upd_ap, if_neg (by omega), upd_ap, if_neg (by omega), upd_ap, if_neg (by omega), upd_ap, if_pos rfl]; rfl
      · rw [upd_ap, if_neg (by omega), upd_ap, if_neg (by omega), upd_ap, if_neg (by omega), upd_ap, if_neg (by omega), upd_ap, if_pos rfl]; rfl
      · rw [upd_ap, if_neg (by omega), upd_ap, if_neg (by omega), upd_ap, if_neg (by omega), upd_ap, if_pos rfl]; rfl
      · rw [upd_ap, if_neg (by omega), upd_ap, if_neg (by omega), upd_ap, if_pos rfl]; rfl
      · rw [upd_ap, if_neg (by omega), upd_ap, if_pos rfl]; rfl
    · rw [far _ (by omega) (by omega), er (2 + j) o (by omega) q]; exact r4 j o hj hj6 (by omega)
  · rw [em] at hm
    rw [far _ (by omega) (by omega), r5 m hm]
    by_cases q : m = tn S
    · rw [q, es 8 (by omega)]; rfl
    · rw [er 8 m (by omega) q]
theorem t9_tent (hG : Ok G) (hd1 : 5 ≤ d) (h : RM S L tb tl fk fp kp I W A s) (hk : Vk S) (y fm md : Int32) : Tr G d 140 [.ref 31, .int y, .int fm, .int md] n z (mM f0 I W A s) (RX (if tnP S y fm md then pitS S y fm md else S) L tb tl fk fp kp n z f0 (if tnP S y fm md then S 0 3 else -1)) := by
  have hB := h.1.1.1.1.1
  obtain ⟨b1, b2⟩ := hB.1
  obtain ⟨w0, w1, w2, w3, w4, -⟩ := h.1.2.1.ten
  rw [b1] at w3
  have h5 : ¬ 10 ≤ S 0 3 ↔ ¬ tn S = 10 := by rw [b1, show (10 : Int32) = nI 10 from rfl, nI_leI (by omega) (by omega)]; omega
  refine Tr.of2 (ls0 := [.ref 31, .int y, .int fm, .int md, dead]) hG mo_X9_tent (Nat.le_of_ble_eq_true rfl) rfl ?_
  intro X hi hd hXn hXz hXf hQ
  have no : ¬ tnP S y fm md → RX (if tnP S y fm md then pitS S y fm md else S) L tb tl fk fp kp n z f0 (if tnP S y fm md then S 0 3 else -1) (some (.int (-1))) n z (mM f0 I W A s) := fun q => by
    rw [if_neg q, if_neg q]; exact RX.i rfl h
  have h10 : nI (tn S) = 10 ↔ tn S = 10 := nI_eq (b := 10) (by omega) (by omega)
  refine wpC_sound (PC_ok hG _) (by rw [hi]; exact ok_X9_tent) (hd := [37]) 400 _ _ _ _ _ _ ?_
  simp only [wp, stp, List.mem_cons, List.not_mem_nil, Nat.reduceEqDiff, or_false, or_self, false_or, or_true, true_or, Nat.reduceAdd, ↓reduceIte, List.getElem?_cons_zero, List.getElem?_cons_succ, nthV, List.set_cons_zero, List.set_cons_succ, noL, popA, catS, Value.category, List.length_cons, List.length_nil, Nat.reduceLT, Nat.reduceLeDiff, true_and, and_true, one0, zer1, imp_t, imp_f, ofN_nI, sdead, f20, f21, not_true_eq_false, upC_ap, upC_upC, retC, fitC, isRefT, Option.toList_some, Option.toList_none, List.cons_append, List.nil_append, Nat.lt_add_one, Nat.zero_lt_succ, Nat.le_refl, Nat.add_zero, Nat.zero_add, Nat.one_ne_zero, Nat.zero_ne_one, Nat.lt_irrefl, List.length_set, fa_X9_tent, hi, hd, hQ, mr_X9_tent, bI_0, w3, h10, mM_31, mM_32, mM_33, mM_34, mM_35, mM_36, mM_37, mM_38, mM_39, mM_40, mM_41, mM_42, mM_43, mM_44, mM_45, mM_46, mM_47, mM_48, mu_31, mu_32, mu_33, mu_34, mu_35, mu_36, mu_37, mu_38, mu_39, mu_40, mu_41, mu_42, mu_43, mu_44, mu_45, mu_46, mu_47, mu_48, mO_len, mg_0, mg_1, mg_2, mg_3, mg_4, mg_5, mg_6, mg_7, mg_8, mg_9, mg_10, mg_11, mg_12, mg_13, mg_14, mg_15, mg_16, mg_17, mg_18, mg_19, mg_20, mg_21, mg_22, mg_23, mg_24, mg_25, mg_26, mg_27, mg_28, mg_29, mg_30, mg_31, mg_32, mg_33, mg_34, mg_35, ms_2, ms_8, ms_9, ms_10, ms_11, ms_12, ms_13, ms_14, ms_15, ms_16, ms_17, ms_18, ms_19, ms_22, ms_23, ms_32, ms_33, ms_34, ms_35, cN_0, vN_0, cN_1, vN_1, cN_2, vN_2, cN_3, vN_3, cN_4, vN_4, cN_5, vN_5, cN_6, vN_6, cN_7, vN_7, cN_8, vN_8, cN_9, vN_9, cN_190, vN_190, wpC, stpC, PC, PV, reduceCtorEq]
  refine ⟨by omega, fun q => no (fun r => q ⟨r.1.2.1, r.1.2.2.1⟩), fun q => ⟨by omega, fun q1 => no (fun r => q1 r.1.2.2.2), fun q1 => ⟨fun q2 => no (fun r => h5.mp r.1.1 q2), fun q2 => ⟨by omega, _, t9_couldBe hG (by omega) hB h.1.2.1 _ _ _, ?_⟩⟩⟩⟩
  rintro r n2 z2 f2 ⟨rfl, rfl, rfl, rfl⟩
  by_cases q3 : csS S y (-1) fm
  · have q := Decidable.not_not.mp q
    have q1 := Decidable.not_not.mp q1
    have hp : tnP S y fm md := ⟨⟨h5.mpr q2, q.1, q.2, q1⟩, q3⟩
    rw [if_pos hp, if_pos hp] at hQ
    obtain ⟨c, hc, rfl⟩ := inS_nI q3.1.1.1
    rw [bI_t q3]
    have u3 : ∀ a b c e f' g, upd (upd (upd (upd (upd (upd W (120 + 6 * tn S) a) (120 + 6 * tn S + 1) b) (120 + 6 * tn S + 2) c) (120 + 6 * tn S + 3) e) (120 + 6 * tn S + 4) f') (120 + 6 * tn S + 5) g 3 = nI (tn S) := fun a b c e f' g => by
      rw [upd_ap, if_neg (by omega), upd_ap, if_neg (by omega), upd_ap, if_neg (by omega), upd_ap, if_neg (by omega), upd_ap, if_neg (by omega), upd_ap, if_neg (by omega)]; exact w3
    refine wpC_sound (PC_ok hG _) (by rw [hi]; exact ok_X9_tent) (hd := [37]) 400 _ _ _ _ _ _ ?_
    simp only [wp, stp, List.mem_cons, List.not_mem_nil, Nat.reduceEqDiff, or_false, or_self, false_or, or_true, true_or, Nat.reduceAdd, ↓reduceIte, List.getElem?_cons_zero, List.getElem?_cons_succ, nthV, List.set_cons_zero, List.set_cons_succ, noL, popA, catS, Value.category, List.length_cons, List.length_nil, Nat.reduceLT, Nat.reduceLeDiff, true_and, and_true, one0, zer1, imp_t, imp_f, ofN_nI, sdead, f20, f21, not_true_eq_false, upC_ap, upC_upC, retC, fitC, isRefT, Option.toList_some, Option.toList_none, List.cons_append, List.nil_append, Nat.lt_add_one, Nat.zero_lt_succ, Nat.le_refl, Nat.add_zero, Nat.zero_add, Nat.one_ne_zero, Nat.zero_ne_one, Nat.lt_irrefl, List.length_set, fa_X9_tent, hi, hd, hQ, mr_X9_tent, w3, u3, mM_31, mM_32, mM_33, mM_34, mM_35, mM_36, mM_37, mM_38, mM_39, mM_40, mM_41, mM_42, mM_43, mM_44, mM_45, mM_46, mM_47, mM_48, mu_31, mu_32, mu_33, mu_34, mu_35, mu_36, mu_37, mu_38, mu_39, mu_40, mu_41, mu_42, mu_43, mu_44, mu_45, mu_46, mu_47, mu_48, mO_len, mg_0, mg_1, mg_2, mg_3, mg_4, mg_5, mg_6, mg_7, mg_8, mg_9, mg_10, mg_11, mg_12, mg_13, mg_14, mg_15, mg_16, mg_17, mg_18, mg_19, mg_20, mg_21, mg_22, mg_23, mg_24, mg_25, mg_26, mg_27, mg_28, mg_29, mg_30, mg_31, mg_32, mg_33, mg_34, mg_35, ms_2, ms_8, ms_9, ms_10, ms_11, ms_12, ms_13, ms_14, ms_15, ms_16, ms_17, ms_18, ms_19, ms_22, ms_23, ms_32, ms_33, ms_34, ms_35, cN_0, vN_0, cN_1, vN_1, cN_2, vN_2, cN_3, vN_3, cN_4, vN_4, cN_5, vN_5, cN_6, vN_6, cN_7, vN_7, cN_8, vN_8, cN_9, vN_9, cN_190, vN_190, wpC, stpC, PC, PV, reduceCtorEq]
    try simp only [m1f]
    try simp (disch := omega) only [nmod, nI_leI, nI_ltI, nI_eq, nI_clamp, vin_nI, nI_1, fa_lit, nI_add, nI_rm3, nI_rm2, pk_rem, pk_mul, pk_sub, pk_div, nI_eM, nI_Me, nI_pM, nI_pMz, nI_pM0, M1_lt, M1_le, nI_ltM, nI_leM, i8_nI, true_and, and_true, false_implies, true_implies, not_false_eq_true, not_true_eq_false, ne_eq, implies_true, Nat.not_lt_zero, Nat.zero_le, ite_min, max0, Nat.reduceLT, Nat.reduceLeDiff, Nat.reduceEqDiff, Nat.reduceAdd, Nat.reduceMul, Nat.add_zero, Nat.zero_add, w3, u3]
    try simp only [m1u]
    refine ⟨by omega, by omega, by omega, by omega, by omega, by omega, by omega, by omega, by omega, by omega, by omega, by omega, ?_⟩
    refine RX.i b1.symm (h.hv (W' := pitW W (tn S) (nI c) fm md) (h.1.cg ⟨(hk.pit (by omega) q3).1, h.1.1.2.cg rfl ?_⟩ (h.1.2.1.pit hB (by omega) (fun q => (nI_em (by omega)).mp q)) (fun i hi => ?_) (opS_cg (S := S) (S' := pitS S (nI c) fm md) rfl rfl ?_ 1)))
    · funext m
      unfold pitS
      rw [if_neg (by omega)]
      by_cases q : m = tn S
      · rw [if_pos q]; rfl
      · rw [if_neg q]
    · unfold pitW
      rw [upd_ap, if_neg (by omega), upd_ap, if_neg (by omega), upd_ap, if_neg (by omega), upd_ap, if_neg (by omega), upd_ap, if_neg (by omega), upd_ap, if_neg (by omega), upd_ap, if_neg (by omega)]
    · funext m
      unfold pitS
      rw [if_neg (by omega)]
      by_cases q : m = tn S
      · rw [if_pos q]; rfl
      · rw [if_neg q]
  · rw [bI_f q3]
    refine wpC_sound (PC_ok hG _) (by rw [hi]; exact ok_X9_tent) (hd := [37]) 400 _ _ _ _ _ _ ?_
    simp only [wp, stp, List.mem_cons, List.not_mem_nil, Nat.reduceEqDiff, or_false, or_self, false_or, or_true, true_or, Nat.reduceAdd, ↓reduceIte, List.getElem?_cons_zero, List.getElem?_cons_succ, nthV, List.set_cons_zero, List.set_cons_succ, noL, popA, catS, Value.category, List.length_cons, List.length_nil, Nat.reduceLT, Nat.reduceLeDiff, true_and, and_true, one0, zer1, imp_t, imp_f, ofN_nI, sdead, f20, f21, not_true_eq_false, upC_ap, upC_upC, retC, fitC, isRefT, Option.toList_some, Option.toList_none, List.cons_append, List.nil_append, Nat.lt_add_one, Nat.zero_lt_succ, Nat.le_refl, Nat.add_zero, Nat.zero_add, Nat.one_ne_zero, Nat.zero_ne_one, Nat.lt_irrefl, List.length_set, fa_X9_tent, hi, hd, hQ, mr_X9_tent, mM_31, mM_32, mM_33, mM_34, mM_35, mM_36, mM_37, mM_38, mM_39, mM_40, mM_41, mM_42, mM_43, mM_44, mM_45, mM_46, mM_47, mM_48, mu_31, mu_32, mu_33, mu_34, mu_35, mu_36, mu_37, mu_38, mu_39, mu_40, mu_41, mu_42, mu_43, mu_44, mu_45, mu_46, mu_47, mu_48, mO_len, mg_0, mg_1, mg_2, mg_3, mg_4, mg_5, mg_6, mg_7, mg_8, mg_9, mg_10, mg_11, mg_12, mg_13, mg_14, mg_15, mg_16, mg_17, mg_18, mg_19, mg_20, mg_21, mg_22, mg_23, mg_24, mg_25, mg_26, mg_27, mg_28, mg_29, mg_30, mg_31, mg_32, mg_33, mg_34, mg_35, ms_2, ms_8, ms_9, ms_10, ms_11, ms_12, ms_13, ms_14, ms_15, ms_16, ms_17, ms_18, ms_19, ms_22, ms_23, ms_32, ms_33, ms_34, ms_35, cN_0, vN_0, cN_1, vN_1, cN_2, vN_2, cN_3, vN_3, cN_4, vN_4, cN_5, vN_5, cN_6, vN_6, cN_7, vN_7, cN_8, vN_8, cN_9, vN_9, cN_190, vN_190, wpC, stpC, PC, PV, reduceCtorEq]
    exact fun _ => no (fun r => q3 r.2)
theorem WR.cong {W' : Nat → Int32} (h : WR S bs gn W) (hB : Bd S) (hw : ∀ i, i < 190 → W' i = W i) : WR S bs gn W' := by
  obtain ⟨⟨r1, r2⟩, r3, r4, r5⟩ := h
  have h10 := hB.1.2
  have hm6 := hB.2.1.2
  exact ⟨⟨fun i hi => by rw [hw i (by omega)]; exact r1 i hi, fun c hc => by rw [hw _ (by omega)]; exact r2 c hc⟩, fun o ho => by rw [hw _ (by omega)]; exact r3 o ho, fun j o hj hj6 ho => by rw [hw _ (by omega)]; exact r4 j o hj hj6 ho, fun m hm => by rw [hw _ (by omega)]; exact r5 m hm⟩
theorem WL.cong2 {W' : Nat → Int32} (h : WL W L) (hw : ∀ i, 190 ≤ i → i < 1075 → W' i = W i) : WL W' L := by
  obtain ⟨ls, ks, vs, fr, md, tt, T, ⟨l1, l2⟩, l3, l5, l6, l7⟩ := h
  refine ⟨ls, ks, vs, fr, md, tt, T, ⟨by rw [hw _ (by omega) (by omega)]; exact l1, l2⟩, l3, l5, fun i a b => by rw [hw _ (by omega) (by omega), hw _ (by omega) (by omega)]; exact l6 i a b, fun l e c hl => ?_⟩
  obtain ⟨⟨a, b, c⟩, r⟩ := l7 l e c hl
  have hll : l < ls.length := (List.getElem?_eq_some_iff.mp hl).1
  exact ⟨⟨by rw [hw _ (by omega) (by omega)]; exact a, by rw [hw _ (by omega) (by omega)]; exact b, by rw [hw _ (by omega) (by omega)]; exact c⟩, r⟩
theorem t9_begins (hG : Ok G) (w h : Int32) : Tr G d 124 [.ref 31, .int w, .int h] n z (mM f0 I W A s) (fun v n' z' f' => v = none ∧ n' = n ∧ z' = z ∧ ∃ W', f' = mM f0 I W' A (0, s.2) ∧ (W' 0 = w ∧ W' 1 = h ∧ W' 2 = W 2 ∧ W' 5 = -1) ∧ ∀ i, i < 1075 → ¬ i = 0 → ¬ i = 1 → ¬ i = 2 → ¬ i = 5 → W' i = 0) := by
  refine Tr.of2 (ls0 := [.ref 31, .int w, .int h, dead, dead]) hG mo_X9_begins (Nat.le_of_ble_eq_true rfl) rfl ?_
  intro X hi hd hXn hXz hXf hQ
  have loop : ∀ j k W1, k + j = 1075 → (∀ i, i < k → W1 i = 0) → V G X 10 [.ref 31, .int w, .int h, .int (W 2), .int (nI k)] [] n z (mM f0 I W1 A s) := by
    intro j
    induction j with
    | zero =>
      intro k W1 hk h1
      have : k = 1075 := by omega
      subst this
      refine wpC_sound (PC_ok hG _) (by rw [hi]; exact ok_X9_begins) (hd := [10]) 400 _ _ _ _ _ _ ?_
      simp only [wp, stp, List.mem_cons, List.not_mem_nil, Nat.reduceEqDiff, or_false, or_self, false_or, or_true, true_or, Nat.reduceAdd, ↓reduceIte, List.getElem?_cons_zero, List.getElem?_cons_succ, nthV, List.set_cons_zero, List.set_cons_succ, noL, popA, catS, Value.category, List.length_cons, List.length_nil, Nat.reduceLT, Nat.reduceLeDiff, true_and, and_true, one0, zer1, imp_t, imp_f, ofN_nI, sdead, f20, f21, not_true_eq_false, upC_ap, upC_upC, retC, fitC, isRefT, Option.toList_some, Option.toList_none, List.cons_append, List.nil_append, Nat.lt_add_one, Nat.zero_lt_succ, Nat.le_refl, Nat.add_zero, Nat.zero_add, Nat.one_ne_zero, Nat.zero_ne_one, Nat.lt_irrefl, List.length_set, fa_X9_begins, hi, hd, hQ, mr_X9_begins, mM_31, mM_32, mM_33, mM_34, mM_35, mM_36, mM_37, mM_38, mM_39, mM_40, mM_41, mM_42, mM_43, mM_44, mM_45, mM_46, mM_47, mM_48, mu_31, mu_32, mu_33, mu_34, mu_35, mu_36, mu_37, mu_38, mu_39, mu_40, mu_41, mu_42, mu_43, mu_44, mu_45, mu_46, mu_47, mu_48, mO_len, mg_0, mg_1, mg_2, mg_3, mg_4, mg_5, mg_6, mg_7, mg_8, mg_9, mg_10, mg_11, mg_12, mg_13, mg_14, mg_15, mg_16, mg_17, mg_18, mg_19, mg_20, mg_21, mg_22, mg_23, mg_24, mg_25, mg_26, mg_27, mg_28, mg_29, mg_30, mg_31, mg_32, mg_33, mg_34, mg_35, ms_2, ms_8, ms_9, ms_10, ms_11, ms_12, ms_13, ms_14, ms_15, ms_16, ms_17, ms_18, ms_19, ms_22, ms_23, ms_32, ms_33, ms_34, ms_35, cN_0, vN_0, cN_1, vN_1, cN_2, vN_2, cN_3, vN_3, cN_4, vN_4, cN_5, vN_5, cN_6, vN_6, cN_7, vN_7, cN_8, vN_8, cN_9, vN_9, cN_190, vN_190, wpC, stpC, PC, PV, reduceCtorEq]
      try simp only [m1f]
      try simp (disch := omega) only [nmod, nI_leI, nI_ltI, nI_eq, nI_clamp, vin_nI, nI_1, fa_lit, nI_add, nI_rm3, nI_rm2, pk_rem, pk_mul, pk_sub, pk_div, nI_eM, nI_Me, nI_pM, nI_pMz, nI_pM0, M1_lt, M1_le, nI_ltM, nI_leM, i8_nI, true_and, and_true, false_implies, true_implies, not_false_eq_true, not_true_eq_false, ne_eq, implies_true, Nat.not_lt_zero, Nat.zero_le, ite_min, max0, Nat.reduceLT, Nat.reduceLeDiff, Nat.reduceEqDiff, Nat.reduceAdd, Nat.reduceMul, Nat.add_zero, Nat.zero_add]
      try simp only [m1u]
      refine ⟨_, rfl, ⟨rfl, rfl, rfl, rfl⟩, fun i hi h0 h1' h2 h5 => ?_⟩
      rw [upd_ap, if_neg h5, upd_ap, if_neg h1', upd_ap, if_neg h0, upd_ap, if_neg h2]
      exact h1 i hi
    | succ j ih =>
      intro k W1 hk h1
      have hk1 : ¬ 1075 ≤ k := by omega
      refine wpC_sound (PC_ok hG _) (by rw [hi]; exact ok_X9_begins) (hd := [10]) 400 _ _ _ _ _ _ ?_
      simp only [wp, stp, List.mem_cons, List.not_mem_nil, Nat.reduceEqDiff, or_false, or_self, false_or, or_true, true_or, Nat.reduceAdd, ↓reduceIte, List.getElem?_cons_zero, List.getElem?_cons_succ, nthV, List.set_cons_zero, List.set_cons_succ, noL, popA, catS, Value.category, List.length_cons, List.length_nil, Nat.reduceLT, Nat.reduceLeDiff, true_and, and_true, one0, zer1, imp_t, imp_f, ofN_nI, sdead, f20, f21, not_true_eq_false, upC_ap, upC_upC, retC, fitC, isRefT, Option.toList_some, Option.toList_none, List.cons_append, List.nil_append, Nat.lt_add_one, Nat.zero_lt_succ, Nat.le_refl, Nat.add_zero, Nat.zero_add, Nat.one_ne_zero, Nat.zero_ne_one, Nat.lt_irrefl, List.length_set, fa_X9_begins, hi, hd, hQ, mr_X9_begins, hk1, mM_31, mM_32, mM_33, mM_34, mM_35, mM_36, mM_37, mM_38, mM_39, mM_40, mM_41, mM_42, mM_43, mM_44, mM_45, mM_46, mM_47, mM_48, mu_31, mu_32, mu_33, mu_34, mu_35, mu_36, mu_37, mu_38, mu_39, mu_40, mu_41, mu_42, mu_43, mu_44, mu_45, mu_46, mu_47, mu_48, mO_len, mg_0, mg_1, mg_2, mg_3, mg_4, mg_5, mg_6, mg_7, mg_8, mg_9, mg_10, mg_11, mg_12, mg_13, mg_14, mg_15, mg_16, mg_17, mg_18, mg_19, mg_20, mg_21, mg_22, mg_23, mg_24, mg_25, mg_26, mg_27, mg_28, mg_29, mg_30, mg_31, mg_32, mg_33, mg_34, mg_35, ms_2, ms_8, ms_9, ms_10, ms_11, ms_12, ms_13, ms_14, ms_15, ms_16, ms_17, ms_18, ms_19, ms_22, ms_23, ms_32, ms_33, ms_34, ms_35, cN_0, vN_0, cN_1, vN_1, cN_2, vN_2, cN_3, vN_3, cN_4, vN_4, cN_5, vN_5, cN_6, vN_6, cN_7, vN_7, cN_8, vN_8, cN_9, vN_9, cN_190, vN_190, wpC, stpC, PC, PV, reduceCtorEq]
      try simp only [m1f]
      try simp (disch := omega) only [nmod, nI_leI, nI_ltI, nI_eq, nI_clamp, vin_nI, nI_1, fa_lit, nI_add, nI_rm3, nI_rm2, pk_rem, pk_mul, pk_sub, pk_div, nI_eM, nI_Me, nI_pM, nI_pMz, nI_pM0, M1_lt, M1_le, nI_ltM, nI_leM, i8_nI, true_and, and_true, false_implies, true_implies, not_false_eq_true, not_true_eq_false, ne_eq, implies_true, Nat.not_lt_zero, Nat.zero_le, ite_min, max0, Nat.reduceLT, Nat.reduceLeDiff, Nat.reduceEqDiff, Nat.reduceAdd, Nat.reduceMul, Nat.add_zero, Nat.zero_add, hk1]
      try simp only [m1u]
      refine ⟨by omega, ih _ _ (by omega) (fun i hi => ?_)⟩
      rw [upd_ap]
      by_cases q : i = k
      · rw [if_pos q]; rfl
      · rw [if_neg q]; exact h1 i (by omega)
  refine wpC_sound (PC_ok hG _) (by rw [hi]; exact ok_X9_begins) (hd := [10]) 400 _ _ _ _ _ _ ?_
  simp only [wp, stp, List.mem_cons, List.not_mem_nil, Nat.reduceEqDiff, or_false, or_self, false_or, or_true, true_or, Nat.reduceAdd, ↓reduceIte, List.getElem?_cons_zero, List.getElem?_cons_succ, nthV, List.set_cons_zero, List.set_cons_succ, noL, popA, catS, Value.category, List.length_cons, List.length_nil, Nat.reduceLT, Nat.reduceLeDiff, true_and, and_true, one0, zer1, imp_t, imp_f, ofN_nI, sdead, f20, f21, not_true_eq_false, upC_ap, upC_upC, retC, fitC, isRefT, Option.toList_some, Option.toList_none, List.cons_append, List.nil_append, Nat.lt_add_one, Nat.zero_lt_succ, Nat.le_refl, Nat.add_zero, Nat.zero_add, Nat.one_ne_zero, Nat.zero_ne_one, Nat.lt_irrefl, List.length_set, fa_X9_begins, hi, hd, hQ, mr_X9_begins, mM_31, mM_32, mM_33, mM_34, mM_35, mM_36, mM_37, mM_38, mM_39, mM_40, mM_41, mM_42, mM_43, mM_44, mM_45, mM_46, mM_47, mM_48, mu_31, mu_32, mu_33, mu_34, mu_35, mu_36, mu_37, mu_38, mu_39, mu_40, mu_41, mu_42, mu_43, mu_44, mu_45, mu_46, mu_47, mu_48, mO_len, mg_0, mg_1, mg_2, mg_3, mg_4, mg_5, mg_6, mg_7, mg_8, mg_9, mg_10, mg_11, mg_12, mg_13, mg_14, mg_15, mg_16, mg_17, mg_18, mg_19, mg_20, mg_21, mg_22, mg_23, mg_24, mg_25, mg_26, mg_27, mg_28, mg_29, mg_30, mg_31, mg_32, mg_33, mg_34, mg_35, ms_2, ms_8, ms_9, ms_10, ms_11, ms_12, ms_13, ms_14, ms_15, ms_16, ms_17, ms_18, ms_19, ms_22, ms_23, ms_32, ms_33, ms_34, ms_35, cN_0, vN_0, cN_1, vN_1, cN_2, vN_2, cN_3, vN_3, cN_4, vN_4, cN_5, vN_5, cN_6, vN_6, cN_7, vN_7, cN_8, vN_8, cN_9, vN_9, cN_190, vN_190, wpC, stpC, PC, PV, reduceCtorEq]
  try simp only [m1f]
  try simp (disch := omega) only [nmod, nI_leI, nI_ltI, nI_eq, nI_clamp, vin_nI, nI_1, fa_lit, nI_add, nI_rm3, nI_rm2, pk_rem, pk_mul, pk_sub, pk_div, nI_eM, nI_Me, nI_pM, nI_pMz, nI_pM0, M1_lt, M1_le, nI_ltM, nI_leM, i8_nI, true_and, and_true, false_implies, true_implies, not_false_eq_true, not_true_eq_false, ne_eq, implies_true, Nat.not_lt_zero, Nat.zero_le, ite_min, max0, Nat.reduceLT, Nat.reduceLeDiff, Nat.reduceEqDiff, Nat.reduceAdd, Nat.reduceMul, Nat.add_zero, Nat.zero_add]
  try simp only [m1u]
  exact loop 1075 0 W (by omega) (fun i hi => absurd hi (by omega))
theorem HV.clr {W' : Nat → Int32} (hI : I 23 = -1) {w h : Int32} (hp : plP w h) (e0 : W' 0 = w ∧ W' 1 = h ∧ W' 2 = S 0 2 ∧ W' 5 = -1) (ez : ∀ i, i < 1075 → ¬ i = 0 → ¬ i = 1 → ¬ i = 2 → ¬ i = 5 → W' i = 0) : HV (clrS S w h) L0 I W' (0, s.2) := by
  have et : tn (clrS S w h) = 0 := rfl
  have em : mn (clrS S w h) = 0 := rfl
  refine ⟨⟨(Vk.clr hp).1, fun m hm => absurd hm (Nat.not_lt_zero m)⟩, ⟨⟨fun i hi => ?_, fun c hc => ?_⟩, fun o ho => absurd ho (Nat.not_lt_zero o), fun j o _ _ ho => absurd ho (Nat.not_lt_zero o), fun m hm => absurd hm (Nat.not_lt_zero m)⟩, ⟨[], fun _ => 0, fun _ => 0, fun _ => 0, fun _ => 0, fun _ => 0, 0, ⟨ez 190 (by omega) (by omega) (by omega) (by omega) (by omega), by decide⟩, ⟨rfl, rfl⟩, by omega, fun i _ h => absurd h (Nat.not_lt_zero i), fun l e c hl => by simp at hl⟩, Or.inl rfl, hI⟩
  · show W' i = (if i = 0 then w else if i = 1 then h else if i = 2 then S 0 2 else if i = 5 then -1 else 0)
    by_cases q0 : i = 0
    · rw [if_pos q0, q0]; exact e0.1
    · by_cases q1 : i = 1
      · rw [if_neg q0, if_pos q1, q1]; exact e0.2.1
      · by_cases q2 : i = 2
        · rw [if_neg q0, if_neg q1, if_pos q2, q2]; exact e0.2.2.1
        · by_cases q5 : i = 5
          · rw [if_neg q0, if_neg q1, if_neg q2, if_pos q5, q5]; exact e0.2.2.2
          · rw [if_neg q0, if_neg q1, if_neg q2, if_neg q5]; exact ez i (by omega) q0 q1 q2 q5
  · rw [ez _ (by omega) (by omega) (by omega) (by omega) (by omega)]; rfl
theorem t9_plain (hG : Ok G) (hd1 : 2 ≤ d) (h : RM S L tb tl fk fp kp I W A s) (w hh : Int32) : Tr G d 135 [.ref 31, .int w, .int hh] n z (mM f0 I W A s) (fun v n' z' f' => if plP w hh then RX (clrS S w hh) L0 tb tl fk fp kp n z f0 1 v n' z' f' else RX S L tb tl fk fp kp n z f0 0 v n' z' f') := by
  obtain ⟨w0, w1, w2, -⟩ := h.1.2.1.ten
  refine Tr.of2 (ls0 := [.ref 31, .int w, .int hh]) hG mo_X9_plain (Nat.le_of_ble_eq_true rfl) rfl ?_
  intro X hi hd hXn hXz hXf hQ
  by_cases hp : plP w hh
  · simp only [if_pos hp] at hQ
    refine wpC_sound (PC_ok hG _) (by rw [hi]; exact ok_X9_plain) (hd := [28]) 400 _ _ _ _ _ _ ?_
    simp only [wp, stp, List.mem_cons, List.not_mem_nil, Nat.reduceEqDiff, or_false, or_self, false_or, or_true, true_or, Nat.reduceAdd, ↓reduceIte, List.getElem?_cons_zero, List.getElem?_cons_succ, nthV, List.set_cons_zero, List.set_cons_succ, noL, popA, catS, Value.category, List.length_cons, List.length_nil, Nat.reduceLT, Nat.reduceLeDiff, true_and, and_true, one0, zer1, imp_t, imp_f, ofN_nI, sdead, f20, f21, not_true_eq_false, upC_ap, upC_upC, retC, fitC, isRefT, Option.toList_some, Option.toList_none, List.cons_append, List.nil_append, Nat.lt_add_one, Nat.zero_lt_succ, Nat.le_refl, Nat.add_zero, Nat.zero_add, Nat.one_ne_zero, Nat.zero_ne_one, Nat.lt_irrefl, List.length_set, fa_X9_plain, hi, hd, hQ, mr_X9_plain, bI_0, mM_31, mM_32, mM_33, mM_34, mM_35, mM_36, mM_37, mM_38, mM_39, mM_40, mM_41, mM_42, mM_43, mM_44, mM_45, mM_46, mM_47, mM_48, mu_31, mu_32, mu_33, mu_34, mu_35, mu_36, mu_37, mu_38, mu_39, mu_40, mu_41, mu_42, mu_43, mu_44, mu_45, mu_46, mu_47, mu_48, mO_len, mg_0, mg_1, mg_2, mg_3, mg_4, mg_5, mg_6, mg_7, mg_8, mg_9, mg_10, mg_11, mg_12, mg_13, mg_14, mg_15, mg_16, mg_17, mg_18, mg_19, mg_20, mg_21, mg_22, mg_23, mg_24, mg_25, mg_26, mg_27, mg_28, mg_29, mg_30, mg_31, mg_32, mg_33, mg_34, mg_35, ms_2, ms_8, ms_9, ms_10, ms_11, ms_12, ms_13, ms_14, ms_15, ms_16, ms_17, ms_18, ms_19, ms_22, ms_23, ms_32, ms_33, ms_34, ms_35, cN_0, vN_0, cN_1, vN_1, cN_2, vN_2, cN_3, vN_3, cN_4, vN_4, cN_5, vN_5, cN_6, vN_6, cN_7, vN_7, cN_8, vN_8, cN_9, vN_9, cN_190, vN_190, wpC, stpC, PC, PV, reduceCtorEq]
    refine ⟨by omega, fun q => absurd hp.1 q, fun _ => ⟨by omega, fun _ => ⟨by omega, _, t9_begins hG w hh, ?_⟩, fun q => absurd ⟨hp.2.1, Int32.not_lt.mpr hp.2.2⟩ q⟩⟩
    rintro r n2 z2 f2 ⟨rfl, rfl, rfl, W', rfl, e0, ez⟩
    rw [w2] at e0
    refine wpC_sound (PC_ok hG _) (by rw [hi]; exact ok_X9_plain) (hd := [28]) 400 _ _ _ _ _ _ ?_
    simp only [wp, stp, List.mem_cons, List.not_mem_nil, Nat.reduceEqDiff, or_false, or_self, false_or, or_true, true_or, Nat.reduceAdd, ↓reduceIte, List.getElem?_cons_zero, List.getElem?_cons_succ, nthV, List.set_cons_zero, List.set_cons_succ, noL, popA, catS, Value.category, List.length_cons, List.length_nil, Nat.reduceLT, Nat.reduceLeDiff, true_and, and_true, one0, zer1, imp_t, imp_f, ofN_nI, sdead, f20, f21, not_true_eq_false, upC_ap, upC_upC, retC, fitC, isRefT, Option.toList_some, Option.toList_none, List.cons_append, List.nil_append, Nat.lt_add_one, Nat.zero_lt_succ, Nat.le_refl, Nat.add_zero, Nat.zero_add, Nat.one_ne_zero, Nat.zero_ne_one, Nat.lt_irrefl, List.length_set, fa_X9_plain, hi, hd, hQ, mr_X9_plain, mM_31, mM_32, mM_33, mM_34, mM_35, mM_36, mM_37, mM_38, mM_39, mM_40, mM_41, mM_42, mM_43, mM_44, mM_45, mM_46, mM_47, mM_48, mu_31, mu_32, mu_33, mu_34, mu_35, mu_36, mu_37, mu_38, mu_39, mu_40, mu_41, mu_42, mu_43, mu_44, mu_45, mu_46, mu_47, mu_48, mO_len, mg_0, mg_1, mg_2, mg_3, mg_4, mg_5, mg_6, mg_7, mg_8, mg_9, mg_10, mg_11, mg_12, mg_13, mg_14, mg_15, mg_16, mg_17, mg_18, mg_19, mg_20, mg_21, mg_22, mg_23, mg_24, mg_25, mg_26, mg_27, mg_28, mg_29, mg_30, mg_31, mg_32, mg_33, mg_34, mg_35, ms_2, ms_8, ms_9, ms_10, ms_11, ms_12, ms_13, ms_14, ms_15, ms_16, ms_17, ms_18, ms_19, ms_22, ms_23, ms_32, ms_33, ms_34, ms_35, cN_0, vN_0, cN_1, vN_1, cN_2, vN_2, cN_3, vN_3, cN_4, vN_4, cN_5, vN_5, cN_6, vN_6, cN_7, vN_7, cN_8, vN_8, cN_9, vN_9, cN_190, vN_190, wpC, stpC, PC, PV, reduceCtorEq]
    exact RX.i rfl (h.hv (HV.clr h.1.2.2.2.2 hp e0 ez))
  · simp only [if_neg hp] at hQ
    refine wpC_sound (PC_ok hG _) (by rw [hi]; exact ok_X9_plain) (hd := [28]) 400 _ _ _ _ _ _ ?_
    simp only [wp, stp, List.mem_cons, List.not_mem_nil, Nat.reduceEqDiff, or_false, or_self, false_or, or_true, true_or, Nat.reduceAdd, ↓reduceIte, List.getElem?_cons_zero, List.getElem?_cons_succ, nthV, List.set_cons_zero, List.set_cons_succ, noL, popA, catS, Value.category, List.length_cons, List.length_nil, Nat.reduceLT, Nat.reduceLeDiff, true_and, and_true, one0, zer1, imp_t, imp_f, ofN_nI, sdead, f20, f21, not_true_eq_false, upC_ap, upC_upC, retC, fitC, isRefT, Option.toList_some, Option.toList_none, List.cons_append, List.nil_append, Nat.lt_add_one, Nat.zero_lt_succ, Nat.le_refl, Nat.add_zero, Nat.zero_add, Nat.one_ne_zero, Nat.zero_ne_one, Nat.lt_irrefl, List.length_set, fa_X9_plain, hi, hd, hQ, mr_X9_plain, bI_0, mM_31, mM_32, mM_33, mM_34, mM_35, mM_36, mM_37, mM_38, mM_39, mM_40, mM_41, mM_42, mM_43, mM_44, mM_45, mM_46, mM_47, mM_48, mu_31, mu_32, mu_33, mu_34, mu_35, mu_36, mu_37, mu_38, mu_39, mu_40, mu_41, mu_42, mu_43, mu_44, mu_45, mu_46, mu_47, mu_48, mO_len, mg_0, mg_1, mg_2, mg_3, mg_4, mg_5, mg_6, mg_7, mg_8, mg_9, mg_10, mg_11, mg_12, mg_13, mg_14, mg_15, mg_16, mg_17, mg_18, mg_19, mg_20, mg_21, mg_22, mg_23, mg_24, mg_25, mg_26, mg_27, mg_28, mg_29, mg_30, mg_31, mg_32, mg_33, mg_34, mg_35, ms_2, ms_8, ms_9, ms_10, ms_11, ms_12, ms_13, ms_14, ms_15, ms_16, ms_17, ms_18, ms_19, ms_22, ms_23, ms_32, ms_33, ms_34, ms_35, cN_0, vN_0, cN_1, vN_1, cN_2, vN_2, cN_3, vN_3, cN_4, vN_4, cN_5, vN_5, cN_6, vN_6, cN_7, vN_7, cN_8, vN_8, cN_9, vN_9, cN_190, vN_190, wpC, stpC, PC, PV, reduceCtorEq]
    refine ⟨by omega, fun q => RX.i rfl h, fun q => ⟨by omega, fun q1 => absurd ⟨Decidable.not_not.mp q, (Decidable.not_not.mp q1).1, Int32.not_lt.mp (Decidable.not_not.mp q1).2⟩ hp, fun _ => RX.i rfl h⟩⟩
end Mds
