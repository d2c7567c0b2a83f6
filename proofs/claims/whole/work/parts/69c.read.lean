-- Reader: numbers become tokens; the tape is split
set_option maxRecDepth 100000
set_option maxHeartbeats 4000000
section Tok2
variable {G : Gam} {d n z rp c i e len : Nat} {f0 : Mf} {I kd pl vl st : Nat → Int32} {tb : Nat → Nat}
theorem t_addNumber (hG : Ok G) (hd1 : 1 ≤ d) (hrp : rp + 5 ≤ 1000000 ∧ 49 ≤ rp) (hT0 : TpA f0 30 len tb) (h5 : I 5 = nI c) (hc : c < 401) (hie : i < e ∧ e ≤ len) (hD : ∀ x, i ≤ x → x < e → isDg (tb x)) : Tr G d 61 [.ref rp, .ref 30, .int (nI i), .int (nI e)] n z (rM f0 rp I kd pl vl st) (TkP f0 rp c I kd pl vl st (if e - i ≤ 4 then 258 else 256) i (nuV tb i (min 4 (e - i))) n z) := by
  obtain ⟨hrp, h49⟩ := hrp
  obtain ⟨tg, t1, t2, t3⟩ := hT0
  have t1' : ∀ I kd pl vl st, rM f0 rp I kd pl vl st 30 = cB 400 tg := fun I kd pl vl st => by rw [rM_o (by omega)]; exact t1
  refine Tr.of2 (ls0 := [.ref rp, .ref 30, .int (nI i), .int (nI e), dead, dead]) hG mo_X5_addNumber (Nat.le_of_ble_eq_true rfl) rfl ?_
  intro X hi hd hXn hXz hXf hQ
  have h41 : ∀ m u5, m = min 4 (e - i) → V G X 41 [.ref rp, .ref 30, .int (nI i), .int (nI e), .int (nI (nuV tb i m)), u5] [] n z (rM f0 rp I kd pl vl st) := by
    rintro m u5 rfl
    have L : ∀ kk : Nat, (kk = if e - i ≤ 4 then 258 else 256) → V G X 58 [.ref rp, .ref 30, .int (nI i), .int (nI e), .int (nI (nuV tb i (min 4 (e - i)))), u5] [.int (nI kk), .ref rp] n z (rM f0 rp I kd pl vl st) := by
      rintro kk rfl
      refine wp_sound (by rw [hi]; exact ok_X5_addNumber) (hd := [6, 64]) 400 _ _ _ _ _ _ ?_
      simp (disch := omega) only [wp, stp, List.mem_cons, List.not_mem_nil, Nat.reduceEqDiff, or_false, or_self, false_or, or_true, true_or, Nat.reduceAdd, ↓reduceIte, List.getElem?_cons_zero, List.getElem?_cons_succ, nthV, List.set_cons_zero, List.set_cons_succ, noL, popA, catS, Value.category, List.length_cons, List.length_nil, Nat.reduceLT, Nat.reduceLeDiff, true_and, and_true, one0, zer1, imp_t, imp_f, ofN_nI, sdead, f20, f21, not_true_eq_false, upC_self, upC_ne, upC_upC, retC, fitC, isRefT, Option.toList_some, Option.toList_none, List.cons_append, List.nil_append, Nat.lt_add_one, Nat.zero_lt_succ, Nat.le_refl, Nat.add_zero, Nat.zero_add, Nat.one_ne_zero, Nat.zero_ne_one, Nat.lt_irrefl, List.length_set, fa_X5_addNumber, hi, hd, hQ, mr_X5_addNumber, rM_0, rM_1, rM_2, rM_3, rM_4, ru_0, ru_1, ru_2, ru_3, ru_4, rO_len, rg_0, rg_1, rg_2, rg_3, rg_4, rg_5, rg_6, rg_7, rg_8, rg_9, rg_10, rs_0, rs_1, rs_5, rs_6, rs_8, rs_9, rs_10]
      refine ⟨hd1, _, t_addToken hG hrp h5 hc _ _ _, ?_⟩
      rintro v n2 z2 f2 ⟨rfl, rfl, rfl, rfl⟩
      refine wp_sound (by rw [hi]; exact ok_X5_addNumber) (hd := [6, 64]) 400 _ _ _ _ _ _ ?_
      simp (disch := omega) only [wp, stp, List.mem_cons, List.not_mem_nil, Nat.reduceEqDiff, or_false, or_self, false_or, or_true, true_or, Nat.reduceAdd, ↓reduceIte, List.getElem?_cons_zero, List.getElem?_cons_succ, nthV, List.set_cons_zero, List.set_cons_succ, noL, popA, catS, Value.category, List.length_cons, List.length_nil, Nat.reduceLT, Nat.reduceLeDiff, true_and, and_true, one0, zer1, imp_t, imp_f, ofN_nI, sdead, f20, f21, not_true_eq_false, upC_self, upC_ne, upC_upC, retC, fitC, isRefT, Option.toList_some, Option.toList_none, List.cons_append, List.nil_append, Nat.lt_add_one, Nat.zero_lt_succ, Nat.le_refl, Nat.add_zero, Nat.zero_add, Nat.one_ne_zero, Nat.zero_ne_one, Nat.lt_irrefl, List.length_set, fa_X5_addNumber, hi, hd, hQ, mr_X5_addNumber, TkP, rM_0, rM_1, rM_2, rM_3, rM_4, ru_0, ru_1, ru_2, ru_3, ru_4, rO_len, rg_0, rg_1, rg_2, rg_3, rg_4, rg_5, rg_6, rg_7, rg_8, rg_9, rg_10, rs_0, rs_1, rs_5, rs_6, rs_8, rs_9, rs_10]
    by_cases q : e - i ≤ 4
    · have L := L 258 (by rw [if_pos q])
      refine wp_sound (by rw [hi]; exact ok_X5_addNumber) (hd := [6, 58, 64]) 400 _ _ _ _ _ _ ?_
      simp only [wp, stp, List.mem_cons, List.not_mem_nil, Nat.reduceEqDiff, or_false, or_self, false_or, or_true, true_or, Nat.reduceAdd, ↓reduceIte, List.getElem?_cons_zero, List.getElem?_cons_succ, nthV, List.set_cons_zero, List.set_cons_succ, noL, popA, catS, Value.category, List.length_cons, List.length_nil, Nat.reduceLT, Nat.reduceLeDiff, true_and, and_true, one0, zer1, imp_t, imp_f, ofN_nI, sdead, f20, f21, not_true_eq_false, upC_ap, upC_upC, retC, fitC, isRefT, Option.toList_some, Option.toList_none, List.cons_append, List.nil_append, Nat.lt_add_one, Nat.zero_lt_succ, Nat.le_refl, Nat.add_zero, Nat.zero_add, Nat.one_ne_zero, Nat.zero_ne_one, Nat.lt_irrefl, List.length_set, fa_X5_addNumber, hi, hd, hQ, mr_X5_addNumber, rM_0, rM_1, rM_2, rM_3, rM_4, ru_0, ru_1, ru_2, ru_3, ru_4, rO_len, rg_0, rg_1, rg_2, rg_3, rg_4, rg_5, rg_6, rg_7, rg_8, rg_9, rg_10, rs_0, rs_1, rs_5, rs_6, rs_8, rs_9, rs_10]
      try simp only [m1f]
      try simp (disch := omega) only [nmod, nI_leI, nI_ltI, nI_eq, nI_clamp, vin_nI, nI_1, fa_lit, nI_add, nI_rm3, nI_rm2, pk_rem, pk_mul, pk_sub, pk_div, nI_eM, nI_Me, nI_pM, nI_pMz, nI_pM0, M1_lt, M1_le, nI_ltM, nI_leM, i8_nI, true_and, and_true, false_implies, true_implies, not_false_eq_true, not_true_eq_false, ne_eq, implies_true, Nat.not_lt_zero, Nat.zero_le, ite_min, max0, Nat.reduceLT, Nat.reduceLeDiff, Nat.reduceEqDiff, Nat.reduceAdd, Nat.reduceMul]
      try simp only [m1u]
      exact ⟨fun _ => L, fun h => absurd h (by omega)⟩
    · have L := L 256 (by rw [if_neg q])
      refine wp_sound (by rw [hi]; exact ok_X5_addNumber) (hd := [6, 58, 64]) 400 _ _ _ _ _ _ ?_
      simp only [wp, stp, List.mem_cons, List.not_mem_nil, Nat.reduceEqDiff, or_false, or_self, false_or, or_true, true_or, Nat.reduceAdd, ↓reduceIte, List.getElem?_cons_zero, List.getElem?_cons_succ, nthV, List.set_cons_zero, List.set_cons_succ, noL, popA, catS, Value.category, List.length_cons, List.length_nil, Nat.reduceLT, Nat.reduceLeDiff, true_and, and_true, one0, zer1, imp_t, imp_f, ofN_nI, sdead, f20, f21, not_true_eq_false, upC_ap, upC_upC, retC, fitC, isRefT, Option.toList_some, Option.toList_none, List.cons_append, List.nil_append, Nat.lt_add_one, Nat.zero_lt_succ, Nat.le_refl, Nat.add_zero, Nat.zero_add, Nat.one_ne_zero, Nat.zero_ne_one, Nat.lt_irrefl, List.length_set, fa_X5_addNumber, hi, hd, hQ, mr_X5_addNumber, rM_0, rM_1, rM_2, rM_3, rM_4, ru_0, ru_1, ru_2, ru_3, ru_4, rO_len, rg_0, rg_1, rg_2, rg_3, rg_4, rg_5, rg_6, rg_7, rg_8, rg_9, rg_10, rs_0, rs_1, rs_5, rs_6, rs_8, rs_9, rs_10]
      try simp only [m1f]
      try simp (disch := omega) only [nmod, nI_leI, nI_ltI, nI_eq, nI_clamp, vin_nI, nI_1, fa_lit, nI_add, nI_rm3, nI_rm2, pk_rem, pk_mul, pk_sub, pk_div, nI_eM, nI_Me, nI_pM, nI_pMz, nI_pM0, M1_lt, M1_le, nI_ltM, nI_leM, i8_nI, true_and, and_true, false_implies, true_implies, not_false_eq_true, not_true_eq_false, ne_eq, implies_true, Nat.not_lt_zero, Nat.zero_le, ite_min, max0, Nat.reduceLT, Nat.reduceLeDiff, Nat.reduceEqDiff, Nat.reduceAdd, Nat.reduceMul]
      try simp only [m1u]
      exact ⟨fun h => absurd h (by omega), fun _ => L⟩
  have loop : ∀ r m, m + r = min 4 (e - i) → V G X 6 [.ref rp, .ref 30, .int (nI i), .int (nI e), .int (nI (nuV tb i m)), .int (nI (i + m))] [] n z (rM f0 rp I kd pl vl st) := by
    intro r
    induction r with
    | zero =>
      intro m hm
      have L := h41 m (.int (nI (i + m))) (by omega)
      refine wp_sound (by rw [hi]; exact ok_X5_addNumber) (hd := [6, 41, 64]) 400 _ _ _ _ _ _ ?_
      simp only [wp, stp, List.mem_cons, List.not_mem_nil, Nat.reduceEqDiff, or_false, or_self, false_or, or_true, true_or, Nat.reduceAdd, ↓reduceIte, List.getElem?_cons_zero, List.getElem?_cons_succ, nthV, List.set_cons_zero, List.set_cons_succ, noL, popA, catS, Value.category, List.length_cons, List.length_nil, Nat.reduceLT, Nat.reduceLeDiff, true_and, and_true, one0, zer1, imp_t, imp_f, ofN_nI, sdead, f20, f21, not_true_eq_false, upC_ap, upC_upC, retC, fitC, isRefT, Option.toList_some, Option.toList_none, List.cons_append, List.nil_append, Nat.lt_add_one, Nat.zero_lt_succ, Nat.le_refl, Nat.add_zero, Nat.zero_add, Nat.one_ne_zero, Nat.zero_ne_one, Nat.lt_irrefl, List.length_set, fa_X5_addNumber, hi, hd, hQ, mr_X5_addNumber, t1', rM_0, rM_1, rM_2, rM_3, rM_4, ru_0, ru_1, ru_2, ru_3, ru_4, rO_len, rg_0, rg_1, rg_2, rg_3, rg_4, rg_5, rg_6, rg_7, rg_8, rg_9, rg_10, rs_0, rs_1, rs_5, rs_6, rs_8, rs_9, rs_10]
      try simp only [m1f]
      try simp (disch := omega) only [nmod, nI_leI, nI_ltI, nI_eq, nI_clamp, vin_nI, nI_1, fa_lit, nI_add, nI_rm3, nI_rm2, pk_rem, pk_mul, pk_sub, pk_div, nI_eM, nI_Me, nI_pM, nI_pMz, nI_pM0, M1_lt, M1_le, nI_ltM, nI_leM, i8_nI, true_and, and_true, false_implies, true_implies, not_false_eq_true, not_true_eq_false, ne_eq, implies_true, Nat.not_lt_zero, Nat.zero_le, ite_min, max0, Nat.reduceLT, Nat.reduceLeDiff, Nat.reduceEqDiff, Nat.reduceAdd, Nat.reduceMul]
      try simp only [m1u]
      refine ⟨fun _ => L, fun h => ⟨fun _ => L, fun h2 => absurd h2 (by omega)⟩⟩
    | succ r ih =>
      intro m hm
      have L := ih (m + 1) (by omega)
      have b0 := hD (i + m) (by omega) (by omega)
      have b1 := t3 (i + m) (by omega)
      have b3 : tg (i + m) = nI (tb (i + m)) := by rw [b1.2, byte_lo (by omega)]
      rw [nuV] at L
      have hv : nuV tb i m < 10 ^ 4 := Nat.lt_of_lt_of_le (nuV_lt (i := i) m (fun j hj => hD _ (by omega) (by omega))) (Nat.pow_le_pow_right (by omega) (by omega))
      have e1 : nI (10 * nuV tb i m) + nI (tb (i + m)) - nI 48 = nI (10 * nuV tb i m + (tb (i + m) - 48)) := by
        rw [nI_add, pk_sub (by omega)]; congr 1; omega
      refine wp_sound (by rw [hi]; exact ok_X5_addNumber) (hd := [6, 41, 64]) 400 _ _ _ _ _ _ ?_
      simp only [wp, stp, List.mem_cons, List.not_mem_nil, Nat.reduceEqDiff, or_false, or_self, false_or, or_true, true_or, Nat.reduceAdd, ↓reduceIte, List.getElem?_cons_zero, List.getElem?_cons_succ, nthV, List.set_cons_zero, List.set_cons_succ, noL, popA, catS, Value.category, List.length_cons, List.length_nil, Nat.reduceLT, Nat.reduceLeDiff, true_and, and_true, one0, zer1, imp_t, imp_f, ofN_nI, sdead, f20, f21, not_true_eq_false, upC_ap, upC_upC, retC, fitC, isRefT, Option.toList_some, Option.toList_none, List.cons_append, List.nil_append, Nat.lt_add_one, Nat.zero_lt_succ, Nat.le_refl, Nat.add_zero, Nat.zero_add, Nat.one_ne_zero, Nat.zero_ne_one, Nat.lt_irrefl, List.length_set, fa_X5_addNumber, hi, hd, hQ, mr_X5_addNumber, t1', rM_0, rM_1, rM_2, rM_3, rM_4, ru_0, ru_1, ru_2, ru_3, ru_4, rO_len, rg_0, rg_1, rg_2, rg_3, rg_4, rg_5, rg_6, rg_7, rg_8, rg_9, rg_10, rs_0, rs_1, rs_5, rs_6, rs_8, rs_9, rs_10]
      try simp only [m1f]
      try simp (disch := omega) only [nmod, nI_leI, nI_ltI, nI_eq, nI_clamp, vin_nI, nI_1, fa_lit, nI_add, nI_rm3, nI_rm2, pk_rem, pk_mul, pk_sub, pk_div, nI_eM, nI_Me, nI_pM, nI_pMz, nI_pM0, M1_lt, M1_le, nI_ltM, nI_leM, i8_nI, true_and, and_true, false_implies, true_implies, not_false_eq_true, not_true_eq_false, ne_eq, implies_true, Nat.not_lt_zero, Nat.zero_le, ite_min, max0, Nat.reduceLT, Nat.reduceLeDiff, Nat.reduceEqDiff, Nat.reduceAdd, Nat.reduceMul]
      try simp only [m1u]
      rw [b3]
      refine ⟨fun h => absurd h (by omega), fun _ => ⟨fun h => absurd h (by omega), fun _ => ⟨by omega, ?_⟩⟩⟩
      rw [e1]
      exact L
  refine wp_sound (by rw [hi]; exact ok_X5_addNumber) (hd := [6, 64]) 400 _ _ _ _ _ _ ?_
  simp only [wp, stp, List.mem_cons, List.not_mem_nil, Nat.reduceEqDiff, or_false, or_self, false_or, or_true, true_or, Nat.reduceAdd, ↓reduceIte, List.getElem?_cons_zero, List.getElem?_cons_succ, nthV, List.set_cons_zero, List.set_cons_succ, noL, popA, catS, Value.category, List.length_cons, List.length_nil, Nat.reduceLT, Nat.reduceLeDiff, true_and, and_true, one0, zer1, imp_t, imp_f, ofN_nI, sdead, f20, f21, not_true_eq_false, upC_ap, upC_upC, retC, fitC, isRefT, Option.toList_some, Option.toList_none, List.cons_append, List.nil_append, Nat.lt_add_one, Nat.zero_lt_succ, Nat.le_refl, Nat.add_zero, Nat.zero_add, Nat.one_ne_zero, Nat.zero_ne_one, Nat.lt_irrefl, List.length_set, fa_X5_addNumber, hi, hd, hQ, mr_X5_addNumber, rM_0, rM_1, rM_2, rM_3, rM_4, ru_0, ru_1, ru_2, ru_3, ru_4, rO_len, rg_0, rg_1, rg_2, rg_3, rg_4, rg_5, rg_6, rg_7, rg_8, rg_9, rg_10, rs_0, rs_1, rs_5, rs_6, rs_8, rs_9, rs_10]
  exact loop (min 4 (e - i)) 0 (by omega)
/-- the tokens so far -/
def TkA (tb : Nat → Nat) (len : Nat) (kd pl vl : Nat → Int32) (k : Nat) : Prop := ∀ j, j < k → kd j = nI (tK tb len j) ∧ pl j = nI (sqT tb len j) ∧ vl j = nI (tV tb len j)
theorem TkA.up {k : Nat} (h : TkA tb len kd pl vl k) : TkA tb len (upd kd k (nI (tK tb len k))) (upd pl k (nI (sqT tb len k))) (upd vl k (nI (tV tb len k))) (k + 1) := fun j hj => by
  rw [upd_ap, upd_ap, upd_ap]
  by_cases q : j = k
  · rw [if_pos q, if_pos q, if_pos q, q]; exact ⟨rfl, rfl, rfl⟩
  · rw [if_neg q, if_neg q, if_neg q]; exact h j (by omega)
theorem t_split (hG : Ok G) (hd1 : 7 ≤ d) (hrp : rp + 5 ≤ 1000000 ∧ 49 ≤ rp) (hA0 : StrA f0) (hT0 : TpA f0 30 len tb) : Tr G d 57 [.ref rp, .ref 30, .int (nI len)] n z (rM f0 rp I kd pl vl st) (fun w n' z' f' => w = none ∧ n' = n ∧ z' = z ∧ ∃ T I' kd' pl' vl', f' = rM f0 rp I' kd' pl' vl' st ∧ (∀ j, ¬ j = 5 → I' j = I j) ∧ I' 5 = nI (T + 1) ∧ TkR (tK tb len) (tV tb len) (sqT tb len) T kd' pl' vl') := by
  obtain ⟨hrp, h49⟩ := hrp
  obtain ⟨tg, t1, t2, t3⟩ := id hT0
  have t1' : ∀ I kd pl vl st, rM f0 rp I kd pl vl st 30 = cB 400 tg := fun I kd pl vl st => by rw [rM_o (by omega)]; exact t1
  have o0 : rp < 1000000 := by omega
  obtain ⟨T, T1, T2, T3⟩ := sqT_num (tb := tb) (len := len)
  have hSk := tkS_lex t2 (fun i hi' => (t3 i hi').1) T1 T2 T3
  refine Tr.of2 (ls0 := [.ref rp, .ref 30, .int (nI len), dead, dead, dead]) hG mo_X5_split (Nat.le_of_ble_eq_true rfl) rfl ?_
  intro X hi hd hXn hXz hXf hQ
  have loop : ∀ m fr k I' kd' pl' vl' u4 u5, len - fr ≤ m → fr ≤ len → k ≤ fr → sqT tb len k = skp tb len fr → (∀ j, j < k → sqT tb len j < len) → (∀ j, ¬ j = 5 → I' j = I j) → I' 5 = nI k → TkA tb len kd' pl' vl' k → V G X 7 [.ref rp, .ref 30, .int (nI len), .int (nI fr), u4, u5] [] n z (rM f0 rp I' kd' pl' vl' st) := by
    have fin : ∀ fr k I' kd' pl' vl' u4 u5, fr = len → k ≤ fr → sqT tb len k = skp tb len fr → (∀ j, j < k → sqT tb len j < len) → (∀ j, ¬ j = 5 → I' j = I j) → I' 5 = nI k → TkA tb len kd' pl' vl' k → V G X 152 [.ref rp, .ref 30, .int (nI len), .int (nI fr), u4, u5] [] n z (rM f0 rp I' kd' pl' vl' st) := by
      rintro fr k I' kd' pl' vl' u4 u5 rfl hkf hsq hlt hI hI5 hA
      have hs : sqT tb fr k = fr := by rw [hsq]; exact skp_no (fun q => by omega)
      have eT : k = T := by
        rcases Nat.lt_trichotomy k T with q | q | q
        · have := T3 k q; omega
        · exact q
        · exact absurd (hlt T q) T2
      subst eT
      refine wp_sound (by rw [hi]; exact ok_X5_split) (hd := [7, 48, 51, 68, 85, 93, 96, 113, 130, 141, 161]) 400 _ _ _ _ _ _ ?_
      simp (disch := omega) only [wp, stp, List.mem_cons, List.not_mem_nil, Nat.reduceEqDiff, or_false, or_self, false_or, or_true, true_or, Nat.reduceAdd, ↓reduceIte, List.getElem?_cons_zero, List.getElem?_cons_succ, nthV, List.set_cons_zero, List.set_cons_succ, noL, popA, catS, Value.category, List.length_cons, List.length_nil, Nat.reduceLT, Nat.reduceLeDiff, true_and, and_true, one0, zer1, imp_t, imp_f, ofN_nI, sdead, f20, f21, not_true_eq_false, upC_self, upC_ne, upC_upC, retC, fitC, isRefT, Option.toList_some, Option.toList_none, List.cons_append, List.nil_append, Nat.lt_add_one, Nat.zero_lt_succ, Nat.le_refl, Nat.add_zero, Nat.zero_add, Nat.one_ne_zero, Nat.zero_ne_one, Nat.lt_irrefl, List.length_set, fa_X5_split, hi, hd, hQ, mr_X5_split, rM_0, rM_1, rM_2, rM_3, rM_4, ru_0, ru_1, ru_2, ru_3, ru_4, rO_len, rg_0, rg_1, rg_2, rg_3, rg_4, rg_5, rg_6, rg_7, rg_8, rg_9, rg_10, rs_0, rs_1, rs_5, rs_6, rs_8, rs_9, rs_10]
      refine ⟨by omega, _, t_addToken hG hrp hI5 (by omega) 257 (nI fr) 0, ?_⟩
      rintro v n2 z2 f2 ⟨rfl, rfl, rfl, rfl⟩
      refine wp_sound (by rw [hi]; exact ok_X5_split) (hd := [7, 48, 51, 68, 85, 93, 96, 113, 130, 141, 161]) 400 _ _ _ _ _ _ ?_
      simp (disch := omega) only [wp, stp, List.mem_cons, List.not_mem_nil, Nat.reduceEqDiff, or_false, or_self, false_or, or_true, true_or, Nat.reduceAdd, ↓reduceIte, List.getElem?_cons_zero, List.getElem?_cons_succ, nthV, List.set_cons_zero, List.set_cons_succ, noL, popA, catS, Value.category, List.length_cons, List.length_nil, Nat.reduceLT, Nat.reduceLeDiff, true_and, and_true, one0, zer1, imp_t, imp_f, ofN_nI, sdead, f20, f21, not_true_eq_false, upC_self, upC_ne, upC_upC, retC, fitC, isRefT, Option.toList_some, Option.toList_none, List.cons_append, List.nil_append, Nat.lt_add_one, Nat.zero_lt_succ, Nat.le_refl, Nat.add_zero, Nat.zero_add, Nat.one_ne_zero, Nat.zero_ne_one, Nat.lt_irrefl, List.length_set, fa_X5_split, hi, hd, hQ, mr_X5_split, rM_0, rM_1, rM_2, rM_3, rM_4, ru_0, ru_1, ru_2, ru_3, ru_4, rO_len, rg_0, rg_1, rg_2, rg_3, rg_4, rg_5, rg_6, rg_7, rg_8, rg_9, rg_10, rs_0, rs_1, rs_5, rs_6, rs_8, rs_9, rs_10]
      have eK : tK tb fr k = 257 := if_neg T2
      have eV : tV tb fr k = 0 := if_neg T2
      have hA2 := hA.up
      rw [eK, eV, hs] at hA2
      refine ⟨k, _, _, _, _, rfl, fun j hj => by rw [upd_ap, if_neg hj]; exact hI j hj, upd_self, hSk, fun j hj => hA2 j (by omega), fun j hj => ?_⟩
      by_cases q : j = k
      · rw [q, eK, eV, hs]; omega
      · obtain ⟨-, a, b, -⟩ := hSk.2.2 j (by omega)
        exact ⟨a, b, Nat.le_trans (sqT_le j) (by omega)⟩
    intro m
    induction m with
    | zero =>
      intro fr k I' kd' pl' vl' u4 u5 hm hfr hkf hsq hlt hI hI5 hA
      have L := fin fr k I' kd' pl' vl' u4 u5 (by omega) hkf hsq hlt hI hI5 hA
      have : fr = len := by omega
      subst this
      refine wp_sound (by rw [hi]; exact ok_X5_split) (hd := [7, 48, 51, 68, 85, 93, 96, 113, 130, 141, 152, 161]) 400 _ _ _ _ _ _ ?_
      simp only [wp, stp, List.mem_cons, List.not_mem_nil, Nat.reduceEqDiff, or_false, or_self, false_or, or_true, true_or, Nat.reduceAdd, ↓reduceIte, List.getElem?_cons_zero, List.getElem?_cons_succ, nthV, List.set_cons_zero, List.set_cons_succ, noL, popA, catS, Value.category, List.length_cons, List.length_nil, Nat.reduceLT, Nat.reduceLeDiff, true_and, and_true, one0, zer1, imp_t, imp_f, ofN_nI, sdead, f20, f21, not_true_eq_false, upC_ap, upC_upC, retC, fitC, isRefT, Option.toList_some, Option.toList_none, List.cons_append, List.nil_append, Nat.lt_add_one, Nat.zero_lt_succ, Nat.le_refl, Nat.add_zero, Nat.zero_add, Nat.one_ne_zero, Nat.zero_ne_one, Nat.lt_irrefl, List.length_set, fa_X5_split, hi, hd, hQ, mr_X5_split, rM_0, rM_1, rM_2, rM_3, rM_4, ru_0, ru_1, ru_2, ru_3, ru_4, rO_len, rg_0, rg_1, rg_2, rg_3, rg_4, rg_5, rg_6, rg_7, rg_8, rg_9, rg_10, rs_0, rs_1, rs_5, rs_6, rs_8, rs_9, rs_10]
      try simp only [m1f]
      try simp (disch := omega) only [nmod, nI_leI, nI_ltI, nI_eq, nI_clamp, vin_nI, nI_1, fa_lit, nI_add, nI_rm3, nI_rm2, pk_rem, pk_mul, pk_sub, pk_div, nI_eM, nI_Me, nI_pM, nI_pMz, nI_pM0, M1_lt, M1_le, nI_ltM, nI_leM, i8_nI, true_and, and_true, false_implies, true_implies, not_false_eq_true, not_true_eq_false, ne_eq, implies_true, Nat.not_lt_zero, Nat.zero_le, ite_min, max0, Nat.reduceLT, Nat.reduceLeDiff, Nat.reduceEqDiff, Nat.reduceAdd, Nat.reduceMul]
      try simp only [m1u]
      exact ⟨fun _ => L, fun h => absurd (Nat.le_refl _) h⟩
    | succ m ih =>
      intro fr k I' kd' pl' vl' u4 u5 hm hfr hkf hsq hlt hI hI5 hA
      by_cases qe : fr = len
      · have L := fin fr k I' kd' pl' vl' u4 u5 qe hkf hsq hlt hI hI5 hA
        subst qe
        refine wp_sound (by rw [hi]; exact ok_X5_split) (hd := [7, 48, 51, 68, 85, 93, 96, 113, 130, 141, 152, 161]) 400 _ _ _ _ _ _ ?_
        simp only [wp, stp, List.mem_cons, List.not_mem_nil, Nat.reduceEqDiff, or_false, or_self, false_or, or_true, true_or, Nat.reduceAdd, ↓reduceIte, List.getElem?_cons_zero, List.getElem?_cons_succ, nthV, List.set_cons_zero, List.set_cons_succ, noL, popA, catS, Value.category, List.length_cons, List.length_nil, Nat.reduceLT, Nat.reduceLeDiff, true_and, and_true, one0, zer1, imp_t, imp_f, ofN_nI, sdead, f20, f21, not_true_eq_false, upC_ap, upC_upC, retC, fitC, isRefT, Option.toList_some, Option.toList_none, List.cons_append, List.nil_append, Nat.lt_add_one, Nat.zero_lt_succ, Nat.le_refl, Nat.add_zero, Nat.zero_add, Nat.one_ne_zero, Nat.zero_ne_one, Nat.lt_irrefl, List.length_set, fa_X5_split, hi, hd, hQ, mr_X5_split, rM_0, rM_1, rM_2, rM_3, rM_4, ru_0, ru_1, ru_2, ru_3, ru_4, rO_len, rg_0, rg_1, rg_2, rg_3, rg_4, rg_5, rg_6, rg_7, rg_8, rg_9, rg_10, rs_0, rs_1, rs_5, rs_6, rs_8, rs_9, rs_10]
        try simp only [m1f]
        try simp (disch := omega) only [nmod, nI_leI, nI_ltI, nI_eq, nI_clamp, vin_nI, nI_1, fa_lit, nI_add, nI_rm3, nI_rm2, pk_rem, pk_mul, pk_sub, pk_div, nI_eM, nI_Me, nI_pM, nI_pMz, nI_pM0, M1_lt, M1_le, nI_ltM, nI_leM, i8_nI, true_and, and_true, false_implies, true_implies, not_false_eq_true, not_true_eq_false, ne_eq, implies_true, Nat.not_lt_zero, Nat.zero_le, ite_min, max0, Nat.reduceLT, Nat.reduceLeDiff, Nat.reduceEqDiff, Nat.reduceAdd, Nat.reduceMul]
        try simp only [m1u]
        exact ⟨fun _ => L, fun h => absurd (Nat.le_refl _) h⟩
      · have hfl : fr < len := by omega
        obtain ⟨b1, b2⟩ := t3 fr hfl
        obtain ⟨B, hB⟩ : ∃ B, B = tb fr := ⟨_, rfl⟩
        have b3 : tg fr &&& 255 = nI B := by rw [b2, hB]; exact (sb_byte _ b1).1
        rw [← hB] at b1
        have hcf : (nI fr).toNatClampNeg = fr := nI_clamp (by omega)
        have hif : vp_in (nI fr) 400 := (vin_nI (by omega)).mpr (by omega)
        -- behind a token
        have next : ∀ ee I2 kd2 pl2 vl2 u4 u5, ee = tkE tb len fr → ¬ isWs (tb fr) → (∀ j, ¬ j = 5 → I2 j = I j) → I2 5 = nI (k + 1) → TkA tb len kd2 pl2 vl2 (k + 1) → V G X 141 [.ref rp, .ref 30, .int (nI len), u4, u5, .int (nI ee)] [] n z (rM f0 rp I2 kd2 pl2 vl2 st) := by
          rintro ee I2 kd2 pl2 vl2 u4 u5 rfl hws q1 q2 q3
          have hsf : sqT tb len k = fr := by rw [hsq]; exact skp_no (fun q => hws q.2)
          obtain ⟨e1, e2⟩ := tkE_in (tb := tb) hfl
          have L := fun u5 => ih (tkE tb len fr) (k + 1) I2 kd2 pl2 vl2 u5 (.int (nI (tkE tb len fr))) (by omega) e2 (by omega) (by rw [sqT, hsf, if_pos hfl]) (fun j hj => by
            by_cases q : j = k
            · rw [q, hsf]; exact hfl
            · exact hlt j (by omega)) q1 q2 q3
          refine wp_sound (by rw [hi]; exact ok_X5_split) (hd := [7, 48, 51, 68, 85, 93, 96, 113, 130, 141, 161]) 400 _ _ _ _ _ _ ?_
          simp only [wp, stp, List.mem_cons, List.not_mem_nil, Nat.reduceEqDiff, or_false, or_self, false_or, or_true, true_or, Nat.reduceAdd, ↓reduceIte, List.getElem?_cons_zero, List.getElem?_cons_succ, nthV, List.set_cons_zero, List.set_cons_succ, noL, popA, catS, Value.category, List.length_cons, List.length_nil, Nat.reduceLT, Nat.reduceLeDiff, true_and, and_true, one0, zer1, imp_t, imp_f, ofN_nI, sdead, f20, f21, not_true_eq_false, upC_ap, upC_upC, retC, fitC, isRefT, Option.toList_some, Option.toList_none, List.cons_append, List.nil_append, Nat.lt_add_one, Nat.zero_lt_succ, Nat.le_refl, Nat.add_zero, Nat.zero_add, Nat.one_ne_zero, Nat.zero_ne_one, Nat.lt_irrefl, List.length_set, fa_X5_split, hi, hd, hQ, mr_X5_split, rM_0, rM_1, rM_2, rM_3, rM_4, ru_0, ru_1, ru_2, ru_3, ru_4, rO_len, rg_0, rg_1, rg_2, rg_3, rg_4, rg_5, rg_6, rg_7, rg_8, rg_9, rg_10, rs_0, rs_1, rs_5, rs_6, rs_8, rs_9, rs_10]
          try simp only [m1f]
          try simp (disch := omega) only [nmod, nI_leI, nI_ltI, nI_eq, nI_clamp, vin_nI, nI_1, fa_lit, nI_add, nI_rm3, nI_rm2, pk_rem, pk_mul, pk_sub, pk_div, nI_eM, nI_Me, nI_pM, nI_pMz, nI_pM0, M1_lt, M1_le, nI_ltM, nI_leM, i8_nI, true_and, and_true, false_implies, true_implies, not_false_eq_true, not_true_eq_false, ne_eq, implies_true, Nat.not_lt_zero, Nat.zero_le, ite_min, max0, Nat.reduceLT, Nat.reduceLeDiff, Nat.reduceEqDiff, Nat.reduceAdd, Nat.reduceMul]
          try simp only [m1u]
          rw [show tkE tb len fr - 1 + 1 = tkE tb len fr by omega]
          exact L _
        have hTk : ¬ isWs (tb fr) → tK tb len k = tkK tb len fr ∧ tV tb len k = tkV tb len fr ∧ sqT tb len k = fr := fun hws => by
          have hsf : sqT tb len k = fr := by rw [hsq]; exact skp_no (fun q => hws q.2)
          unfold tK tV
          rw [hsf, if_pos hfl, if_pos hfl]
          exact ⟨rfl, rfl, rfl⟩
        by_cases hws : isWs (tb fr)
        · have L := fun u4 u5 => ih (fr + 1) k I' kd' pl' vl' u4 u5 (by omega) (by omega) (by omega) (by rw [hsq]; exact skp_ws hfl t2 hws) hlt hI hI5 hA
          refine wp_sound (by rw [hi]; exact ok_X5_split) (hd := [7, 48, 51, 68, 85, 93, 96, 113, 130, 141, 161]) 400 _ _ _ _ _ _ ?_
          simp (disch := omega) only [wp, stp, List.mem_cons, List.not_mem_nil, Nat.reduceEqDiff, or_false, or_self, false_or, or_true, true_or, Nat.reduceAdd, ↓reduceIte, List.getElem?_cons_zero, List.getElem?_cons_succ, nthV, List.set_cons_zero, List.set_cons_succ, noL, popA, catS, Value.category, List.length_cons, List.length_nil, Nat.reduceLT, Nat.reduceLeDiff, true_and, and_true, one0, zer1, imp_t, imp_f, ofN_nI, sdead, f20, f21, not_true_eq_false, upC_self, upC_ne, upC_upC, retC, fitC, isRefT, Option.toList_some, Option.toList_none, List.cons_append, List.nil_append, Nat.lt_add_one, Nat.zero_lt_succ, Nat.le_refl, Nat.add_zero, Nat.zero_add, Nat.one_ne_zero, Nat.zero_ne_one, Nat.lt_irrefl, List.length_set, fa_X5_split, hi, hd, hQ, mr_X5_split, t1', hcf, b3, rM_0, rM_1, rM_2, rM_3, rM_4, ru_0, ru_1, ru_2, ru_3, ru_4, rO_len, rg_0, rg_1, rg_2, rg_3, rg_4, rg_5, rg_6, rg_7, rg_8, rg_9, rg_10, rs_0, rs_1, rs_5, rs_6, rs_8, rs_9, rs_10]
          try simp only [m1f]
          try simp (disch := omega) only [nmod, nI_leI, nI_ltI, nI_eq, nI_clamp, vin_nI, nI_1, fa_lit, nI_add, nI_rm3, nI_rm2, pk_rem, pk_mul, pk_sub, pk_div, nI_eM, nI_Me, nI_pM, nI_pMz, nI_pM0, M1_lt, M1_le, nI_ltM, nI_leM, i8_nI, true_and, and_true, false_implies, true_implies, not_false_eq_true, not_true_eq_false, ne_eq, implies_true, Nat.not_lt_zero, Nat.zero_le, ite_min, max0, Nat.reduceLT, Nat.reduceLeDiff, Nat.reduceEqDiff, Nat.reduceAdd, Nat.reduceMul]
          try simp only [m1u]
          refine ⟨fun h => absurd h (by omega), fun _ => ⟨by omega, fun _ => L _ _, fun h1 => ⟨fun h2 => absurd h2 ?_, fun _ => L _ _⟩⟩⟩
          rcases hws with q | q
          · exact absurd (hB.trans q) h1
          · exact fun h => h (hB.trans q)
        · obtain ⟨k1, k2, k3⟩ := hTk hws
          have hA2 := hA.up
          rw [k1, k2, k3] at hA2
          have hI2 : ∀ v : Int32, ∀ j, ¬ j = 5 → upd I' 5 v j = I j := fun v j hj => by rw [upd_ap, if_neg hj]; exact hI j hj
          refine wp_sound (by rw [hi]; exact ok_X5_split) (hd := [7, 48, 51, 68, 85, 93, 96, 113, 130, 141, 161]) 400 _ _ _ _ _ _ ?_
          simp (disch := omega) only [wp, stp, List.mem_cons, List.not_mem_nil, Nat.reduceEqDiff, or_false, or_self, false_or, or_true, true_or, Nat.reduceAdd, ↓reduceIte, List.getElem?_cons_zero, List.getElem?_cons_succ, nthV, List.set_cons_zero, List.set_cons_succ, noL, popA, catS, Value.category, List.length_cons, List.length_nil, Nat.reduceLT, Nat.reduceLeDiff, true_and, and_true, one0, zer1, imp_t, imp_f, ofN_nI, sdead, f20, f21, not_true_eq_false, upC_self, upC_ne, upC_upC, retC, fitC, isRefT, Option.toList_some, Option.toList_none, List.cons_append, List.nil_append, Nat.lt_add_one, Nat.zero_lt_succ, Nat.le_refl, Nat.add_zero, Nat.zero_add, Nat.one_ne_zero, Nat.zero_ne_one, Nat.lt_irrefl, List.length_set, fa_X5_split, hi, hd, hQ, mr_X5_split, t1', hcf, b3, rM_0, rM_1, rM_2, rM_3, rM_4, ru_0, ru_1, ru_2, ru_3, ru_4, rO_len, rg_0, rg_1, rg_2, rg_3, rg_4, rg_5, rg_6, rg_7, rg_8, rg_9, rg_10, rs_0, rs_1, rs_5, rs_6, rs_8, rs_9, rs_10]
          try simp only [m1f]
          try simp (disch := omega) only [nmod, nI_leI, nI_ltI, nI_eq, nI_clamp, vin_nI, nI_1, fa_lit, nI_add, nI_rm3, nI_rm2, pk_rem, pk_mul, pk_sub, pk_div, nI_eM, nI_Me, nI_pM, nI_pMz, nI_pM0, M1_lt, M1_le, nI_ltM, nI_leM, i8_nI, true_and, and_true, false_implies, true_implies, not_false_eq_true, not_true_eq_false, ne_eq, implies_true, Nat.not_lt_zero, Nat.zero_le, ite_min, max0, Nat.reduceLT, Nat.reduceLeDiff, Nat.reduceEqDiff, Nat.reduceAdd, Nat.reduceMul]
          try simp only [m1u]
          refine ⟨fun h => absurd h (by omega), fun _ => ⟨by omega, fun h => absurd (Or.inl (hB.symm.trans h)) hws, fun h1 => ⟨fun h2 => ⟨by omega, _, t_isLetter5 hG (by omega), ?_⟩, fun h => absurd (Or.inr (hB.symm.trans h)) hws⟩⟩⟩
          rintro v n2 z2 f2 ⟨rfl, rfl, rfl, rfl⟩
          by_cases ql : isLt (tb fr)
          · have ql2 : isLt B := by rw [hB]; exact ql
            have e0 : tkE tb len fr = rn isLt tb len 400 (fr + 1) := if_pos ql
            have eK : tkK tb len fr = wdK tb fr (tkE tb len fr) := if_pos ql
            have eV : tkV tb len fr = (match fcO tb fr (tkE tb len fr) with | some q => q | none => 0) := if_pos ql
            have out : ∀ ee, ee = tkE tb len fr → V G X 77 [.ref rp, .ref 30, .int (nI len), .int (nI fr), .int (nI B), .int (nI ee)] [] n2 z2 (rM f0 rp I' kd' pl' vl' st) := by
              rintro ee rfl
              obtain ⟨e1, e2⟩ := tkE_in (tb := tb) hfl
              refine wp_sound (by rw [hi]; exact ok_X5_split) (hd := [7, 48, 51, 68, 85, 93, 96, 113, 130, 141, 161]) 400 _ _ _ _ _ _ ?_
              simp (disch := omega) only [wp, stp, List.mem_cons, List.not_mem_nil, Nat.reduceEqDiff, or_false, or_self, false_or, or_true, true_or, Nat.reduceAdd, ↓reduceIte, List.getElem?_cons_zero, List.getElem?_cons_succ, nthV, List.set_cons_zero, List.set_cons_succ, noL, popA, catS, Value.category, List.length_cons, List.length_nil, Nat.reduceLT, Nat.reduceLeDiff, true_and, and_true, one0, zer1, imp_t, imp_f, ofN_nI, sdead, f20, f21, not_true_eq_false, upC_self, upC_ne, upC_upC, retC, fitC, isRefT, Option.toList_some, Option.toList_none, List.cons_append, List.nil_append, Nat.lt_add_one, Nat.zero_lt_succ, Nat.le_refl, Nat.add_zero, Nat.zero_add, Nat.one_ne_zero, Nat.zero_ne_one, Nat.lt_irrefl, List.length_set, fa_X5_split, hi, hd, hQ, mr_X5_split, rM_0, rM_1, rM_2, rM_3, rM_4, ru_0, ru_1, ru_2, ru_3, ru_4, rO_len, rg_0, rg_1, rg_2, rg_3, rg_4, rg_5, rg_6, rg_7, rg_8, rg_9, rg_10, rs_0, rs_1, rs_5, rs_6, rs_8, rs_9, rs_10]
              refine ⟨by omega, _, t_addWord hG (by omega) ⟨hrp, h49⟩ hA0 hT0 hI5 (by omega) ⟨by omega, e2⟩ (tkE_lt ql), ?_⟩
              rintro v n3 z3 f3 ⟨rfl, rfl, rfl, rfl⟩
              rw [← eK]
              have L := fun u4 u5 => next (tkE tb len fr) _ _ _ _ u4 u5 rfl hws (hI2 (nI (k + 1))) upd_self hA2
              rw [eV] at L
              refine wp_sound (by rw [hi]; exact ok_X5_split) (hd := [7, 48, 51, 68, 85, 93, 96, 113, 130, 141, 161]) 400 _ _ _ _ _ _ ?_
              simp (disch := omega) only [wp, stp, List.mem_cons, List.not_mem_nil, Nat.reduceEqDiff, or_false, or_self, false_or, or_true, true_or, Nat.reduceAdd, ↓reduceIte, List.getElem?_cons_zero, List.getElem?_cons_succ, nthV, List.set_cons_zero, List.set_cons_succ, noL, popA, catS, Value.category, List.length_cons, List.length_nil, Nat.reduceLT, Nat.reduceLeDiff, true_and, and_true, one0, zer1, imp_t, imp_f, ofN_nI, sdead, f20, f21, not_true_eq_false, upC_self, upC_ne, upC_upC, retC, fitC, isRefT, Option.toList_some, Option.toList_none, List.cons_append, List.nil_append, Nat.lt_add_one, Nat.zero_lt_succ, Nat.le_refl, Nat.add_zero, Nat.zero_add, Nat.one_ne_zero, Nat.zero_ne_one, Nat.lt_irrefl, List.length_set, fa_X5_split, hi, hd, hQ, mr_X5_split, rM_0, rM_1, rM_2, rM_3, rM_4, ru_0, ru_1, ru_2, ru_3, ru_4, rO_len, rg_0, rg_1, rg_2, rg_3, rg_4, rg_5, rg_6, rg_7, rg_8, rg_9, rg_10, rs_0, rs_1, rs_5, rs_6, rs_8, rs_9, rs_10]
              exact L _ _
            have run : ∀ r ee, ee + r = len → fr + 1 ≤ ee → (∀ j, fr ≤ j → j < ee → isLt (tb j)) → V G X 51 [.ref rp, .ref 30, .int (nI len), .int (nI fr), .int (nI B), .int (nI ee)] [] n2 z2 (rM f0 rp I' kd' pl' vl' st) := by
              intro r
              induction r with
              | zero =>
                intro ee he h1 ha
                have L := out ee (by rw [e0]; exact (rn_uniq (by omega) h1 (by omega) (fun j a b => ha j (by omega) b) (fun q => by omega)).symm)
                refine wp_sound (by rw [hi]; exact ok_X5_split) (hd := [7, 48, 51, 68, 77, 85, 93, 96, 113, 130, 141, 161]) 400 _ _ _ _ _ _ ?_
                simp only [wp, stp, List.mem_cons, List.not_mem_nil, Nat.reduceEqDiff, or_false, or_self, false_or, or_true, true_or, Nat.reduceAdd, ↓reduceIte, List.getElem?_cons_zero, List.getElem?_cons_succ, nthV, List.set_cons_zero, List.set_cons_succ, noL, popA, catS, Value.category, List.length_cons, List.length_nil, Nat.reduceLT, Nat.reduceLeDiff, true_and, and_true, one0, zer1, imp_t, imp_f, ofN_nI, sdead, f20, f21, not_true_eq_false, upC_ap, upC_upC, retC, fitC, isRefT, Option.toList_some, Option.toList_none, List.cons_append, List.nil_append, Nat.lt_add_one, Nat.zero_lt_succ, Nat.le_refl, Nat.add_zero, Nat.zero_add, Nat.one_ne_zero, Nat.zero_ne_one, Nat.lt_irrefl, List.length_set, fa_X5_split, hi, hd, hQ, mr_X5_split, rM_0, rM_1, rM_2, rM_3, rM_4, ru_0, ru_1, ru_2, ru_3, ru_4, rO_len, rg_0, rg_1, rg_2, rg_3, rg_4, rg_5, rg_6, rg_7, rg_8, rg_9, rg_10, rs_0, rs_1, rs_5, rs_6, rs_8, rs_9, rs_10]
                try simp only [m1f]
                try simp (disch := omega) only [nmod, nI_leI, nI_ltI, nI_eq, nI_clamp, vin_nI, nI_1, fa_lit, nI_add, nI_rm3, nI_rm2, pk_rem, pk_mul, pk_sub, pk_div, nI_eM, nI_Me, nI_pM, nI_pMz, nI_pM0, M1_lt, M1_le, nI_ltM, nI_leM, i8_nI, true_and, and_true, false_implies, true_implies, not_false_eq_true, not_true_eq_false, ne_eq, implies_true, Nat.not_lt_zero, Nat.zero_le, ite_min, max0, Nat.reduceLT, Nat.reduceLeDiff, Nat.reduceEqDiff, Nat.reduceAdd, Nat.reduceMul]
                try simp only [m1u]
                exact ⟨fun _ => L, fun h => absurd h (by omega)⟩
              | succ r ih2 =>
                intro ee he h1 ha
                have c1 := t3 ee (by omega)
                have c3 : tg ee &&& 255 = nI (tb ee) := by rw [c1.2]; exact (sb_byte _ c1.1).1
                have hcf : (nI ee).toNatClampNeg = ee := nI_clamp (by omega)
                refine wp_sound (by rw [hi]; exact ok_X5_split) (hd := [7, 48, 51, 68, 77, 85, 93, 96, 113, 130, 141, 161]) 400 _ _ _ _ _ _ ?_
                simp only [wp, stp, List.mem_cons, List.not_mem_nil, Nat.reduceEqDiff, or_false, or_self, false_or, or_true, true_or, Nat.reduceAdd, ↓reduceIte, List.getElem?_cons_zero, List.getElem?_cons_succ, nthV, List.set_cons_zero, List.set_cons_succ, noL, popA, catS, Value.category, List.length_cons, List.length_nil, Nat.reduceLT, Nat.reduceLeDiff, true_and, and_true, one0, zer1, imp_t, imp_f, ofN_nI, sdead, f20, f21, not_true_eq_false, upC_ap, upC_upC, retC, fitC, isRefT, Option.toList_some, Option.toList_none, List.cons_append, List.nil_append, Nat.lt_add_one, Nat.zero_lt_succ, Nat.le_refl, Nat.add_zero, Nat.zero_add, Nat.one_ne_zero, Nat.zero_ne_one, Nat.lt_irrefl, List.length_set, fa_X5_split, hi, hd, hQ, mr_X5_split, t1', hcf, c3, rM_0, rM_1, rM_2, rM_3, rM_4, ru_0, ru_1, ru_2, ru_3, ru_4, rO_len, rg_0, rg_1, rg_2, rg_3, rg_4, rg_5, rg_6, rg_7, rg_8, rg_9, rg_10, rs_0, rs_1, rs_5, rs_6, rs_8, rs_9, rs_10]
                try simp only [m1f]
                try simp (disch := omega) only [nmod, nI_leI, nI_ltI, nI_eq, nI_clamp, vin_nI, nI_1, fa_lit, nI_add, nI_rm3, nI_rm2, pk_rem, pk_mul, pk_sub, pk_div, nI_eM, nI_Me, nI_pM, nI_pMz, nI_pM0, M1_lt, M1_le, nI_ltM, nI_leM, i8_nI, true_and, and_true, false_implies, true_implies, not_false_eq_true, not_true_eq_false, ne_eq, implies_true, Nat.not_lt_zero, Nat.zero_le, ite_min, max0, Nat.reduceLT, Nat.reduceLeDiff, Nat.reduceEqDiff, Nat.reduceAdd, Nat.reduceMul]
                try simp only [m1u]
                refine ⟨fun h => absurd h (by omega), fun _ => ⟨by omega, by omega, _, t_isLetter5 hG (by omega), ?_⟩⟩
                rintro v n3 z3 f3 ⟨rfl, rfl, rfl, rfl⟩
                by_cases qn : isLt (tb ee)
                · have L := ih2 (ee + 1) (by omega) (by omega) (fun j a b => by
                    by_cases q : j = ee
                    · rw [q]; exact qn
                    · exact ha j a (by omega))
                  refine wp_sound (by rw [hi]; exact ok_X5_split) (hd := [7, 48, 51, 68, 85, 93, 96, 113, 130, 141, 161]) 400 _ _ _ _ _ _ ?_
                  simp only [wp, stp, List.mem_cons, List.not_mem_nil, Nat.reduceEqDiff, or_false, or_self, false_or, or_true, true_or, Nat.reduceAdd, ↓reduceIte, List.getElem?_cons_zero, List.getElem?_cons_succ, nthV, List.set_cons_zero, List.set_cons_succ, noL, popA, catS, Value.category, List.length_cons, List.length_nil, Nat.reduceLT, Nat.reduceLeDiff, true_and, and_true, one0, zer1, imp_t, imp_f, ofN_nI, sdead, f20, f21, not_true_eq_false, upC_ap, upC_upC, retC, fitC, isRefT, Option.toList_some, Option.toList_none, List.cons_append, List.nil_append, Nat.lt_add_one, Nat.zero_lt_succ, Nat.le_refl, Nat.add_zero, Nat.zero_add, Nat.one_ne_zero, Nat.zero_ne_one, Nat.lt_irrefl, List.length_set, fa_X5_split, hi, hd, hQ, mr_X5_split, bI_t qn, rM_0, rM_1, rM_2, rM_3, rM_4, ru_0, ru_1, ru_2, ru_3, ru_4, rO_len, rg_0, rg_1, rg_2, rg_3, rg_4, rg_5, rg_6, rg_7, rg_8, rg_9, rg_10, rs_0, rs_1, rs_5, rs_6, rs_8, rs_9, rs_10]
                  try simp only [m1f]
                  try simp (disch := omega) only [nmod, nI_leI, nI_ltI, nI_eq, nI_clamp, vin_nI, nI_1, fa_lit, nI_add, nI_rm3, nI_rm2, pk_rem, pk_mul, pk_sub, pk_div, nI_eM, nI_Me, nI_pM, nI_pMz, nI_pM0, M1_lt, M1_le, nI_ltM, nI_leM, i8_nI, true_and, and_true, false_implies, true_implies, not_false_eq_true, not_true_eq_false, ne_eq, implies_true, Nat.not_lt_zero, Nat.zero_le, ite_min, max0, Nat.reduceLT, Nat.reduceLeDiff, Nat.reduceEqDiff, Nat.reduceAdd, Nat.reduceMul]
                  try simp only [m1u]
                  exact L
                · have L := out ee (by rw [e0]; exact (rn_uniq (by omega) h1 (by omega) (fun j a b => ha j (by omega) b) (fun q => qn q.2)).symm)
                  refine wp_sound (by rw [hi]; exact ok_X5_split) (hd := [7, 48, 51, 68, 77, 85, 93, 96, 113, 130, 141, 161]) 400 _ _ _ _ _ _ ?_
                  simp only [wp, stp, List.mem_cons, List.not_mem_nil, Nat.reduceEqDiff, or_false, or_self, false_or, or_true, true_or, Nat.reduceAdd, ↓reduceIte, List.getElem?_cons_zero, List.getElem?_cons_succ, nthV, List.set_cons_zero, List.set_cons_succ, noL, popA, catS, Value.category, List.length_cons, List.length_nil, Nat.reduceLT, Nat.reduceLeDiff, true_and, and_true, one0, zer1, imp_t, imp_f, ofN_nI, sdead, f20, f21, not_true_eq_false, upC_ap, upC_upC, retC, fitC, isRefT, Option.toList_some, Option.toList_none, List.cons_append, List.nil_append, Nat.lt_add_one, Nat.zero_lt_succ, Nat.le_refl, Nat.add_zero, Nat.zero_add, Nat.one_ne_zero, Nat.zero_ne_one, Nat.lt_irrefl, List.length_set, fa_X5_split, hi, hd, hQ, mr_X5_split, bI_f qn, rM_0, rM_1, rM_2, rM_3, rM_4, ru_0, ru_1, ru_2, ru_3, ru_4, rO_len, rg_0, rg_1, rg_2, rg_3, rg_4, rg_5, rg_6, rg_7, rg_8, rg_9, rg_10, rs_0, rs_1, rs_5, rs_6, rs_8, rs_9, rs_10]
                  try simp only [m1f]
                  try simp (disch := omega) only [nmod, nI_leI, nI_ltI, nI_eq, nI_clamp, vin_nI, nI_1, fa_lit, nI_add, nI_rm3, nI_rm2, pk_rem, pk_mul, pk_sub, pk_div, nI_eM, nI_Me, nI_pM, nI_pMz, nI_pM0, M1_lt, M1_le, nI_ltM, nI_leM, i8_nI, true_and, and_true, false_implies, true_implies, not_false_eq_true, not_true_eq_false, ne_eq, implies_true, Nat.not_lt_zero, Nat.zero_le, ite_min, max0, Nat.reduceLT, Nat.reduceLeDiff, Nat.reduceEqDiff, Nat.reduceAdd, Nat.reduceMul]
                  try simp only [m1u]
                  exact L
            have L := run (len - (fr + 1)) (fr + 1) (by omega) (Nat.le_refl _) (fun j a b => by
              have : j = fr := by omega
              rw [this]; exact ql)
            refine wp_sound (by rw [hi]; exact ok_X5_split) (hd := [7, 48, 51, 68, 85, 93, 96, 113, 130, 141, 161]) 400 _ _ _ _ _ _ ?_
            simp only [wp, stp, List.mem_cons, List.not_mem_nil, Nat.reduceEqDiff, or_false, or_self, false_or, or_true, true_or, Nat.reduceAdd, ↓reduceIte, List.getElem?_cons_zero, List.getElem?_cons_succ, nthV, List.set_cons_zero, List.set_cons_succ, noL, popA, catS, Value.category, List.length_cons, List.length_nil, Nat.reduceLT, Nat.reduceLeDiff, true_and, and_true, one0, zer1, imp_t, imp_f, ofN_nI, sdead, f20, f21, not_true_eq_false, upC_ap, upC_upC, retC, fitC, isRefT, Option.toList_some, Option.toList_none, List.cons_append, List.nil_append, Nat.lt_add_one, Nat.zero_lt_succ, Nat.le_refl, Nat.add_zero, Nat.zero_add, Nat.one_ne_zero, Nat.zero_ne_one, Nat.lt_irrefl, List.length_set, fa_X5_split, hi, hd, hQ, mr_X5_split, bI_t ql2, rM_0, rM_1, rM_2, rM_3, rM_4, ru_0, ru_1, ru_2, ru_3, ru_4, rO_len, rg_0, rg_1, rg_2, rg_3, rg_4, rg_5, rg_6, rg_7, rg_8, rg_9, rg_10, rs_0, rs_1, rs_5, rs_6, rs_8, rs_9, rs_10]
            try simp only [m1f]
            try simp (disch := omega) only [nmod, nI_leI, nI_ltI, nI_eq, nI_clamp, vin_nI, nI_1, fa_lit, nI_add, nI_rm3, nI_rm2, pk_rem, pk_mul, pk_sub, pk_div, nI_eM, nI_Me, nI_pM, nI_pMz, nI_pM0, M1_lt, M1_le, nI_ltM, nI_leM, i8_nI, true_and, and_true, false_implies, true_implies, not_false_eq_true, not_true_eq_false, ne_eq, implies_true, Nat.not_lt_zero, Nat.zero_le, ite_min, max0, Nat.reduceLT, Nat.reduceLeDiff, Nat.reduceEqDiff, Nat.reduceAdd, Nat.reduceMul]
            try simp only [m1u]
            exact L
          · have ql2 : ¬ isLt B := by rw [hB]; exact ql
            refine wp_sound (by rw [hi]; exact ok_X5_split) (hd := [7, 48, 51, 68, 85, 93, 96, 113, 130, 141, 161]) 400 _ _ _ _ _ _ ?_
            simp only [wp, stp, List.mem_cons, List.not_mem_nil, Nat.reduceEqDiff, or_false, or_self, false_or, or_true, true_or, Nat.reduceAdd, ↓reduceIte, List.getElem?_cons_zero, List.getElem?_cons_succ, nthV, List.set_cons_zero, List.set_cons_succ, noL, popA, catS, Value.category, List.length_cons, List.length_nil, Nat.reduceLT, Nat.reduceLeDiff, true_and, and_true, one0, zer1, imp_t, imp_f, ofN_nI, sdead, f20, f21, not_true_eq_false, upC_ap, upC_upC, retC, fitC, isRefT, Option.toList_some, Option.toList_none, List.cons_append, List.nil_append, Nat.lt_add_one, Nat.zero_lt_succ, Nat.le_refl, Nat.add_zero, Nat.zero_add, Nat.one_ne_zero, Nat.zero_ne_one, Nat.lt_irrefl, List.length_set, fa_X5_split, hi, hd, hQ, mr_X5_split, bI_f ql2, rM_0, rM_1, rM_2, rM_3, rM_4, ru_0, ru_1, ru_2, ru_3, ru_4, rO_len, rg_0, rg_1, rg_2, rg_3, rg_4, rg_5, rg_6, rg_7, rg_8, rg_9, rg_10, rs_0, rs_1, rs_5, rs_6, rs_8, rs_9, rs_10]
            try simp only [m1f]
            try simp (disch := omega) only [nmod, nI_leI, nI_ltI, nI_eq, nI_clamp, vin_nI, nI_1, fa_lit, nI_add, nI_rm3, nI_rm2, pk_rem, pk_mul, pk_sub, pk_div, nI_eM, nI_Me, nI_pM, nI_pMz, nI_pM0, M1_lt, M1_le, nI_ltM, nI_leM, i8_nI, true_and, and_true, false_implies, true_implies, not_false_eq_true, not_true_eq_false, ne_eq, implies_true, Nat.not_lt_zero, Nat.zero_le, ite_min, max0, Nat.reduceLT, Nat.reduceLeDiff, Nat.reduceEqDiff, Nat.reduceAdd, Nat.reduceMul]
            try simp only [m1u]
            refine ⟨by omega, _, t_isDigit5 hG (by omega), ?_⟩
            rintro v n2 z2 f2 ⟨rfl, rfl, rfl, rfl⟩
            by_cases qd : isDg (tb fr)
            · have qd2 : isDg B := by rw [hB]; exact qd
              have e0 : tkE tb len fr = rn isDg tb len 400 (fr + 1) := (if_neg ql).trans (if_pos qd)
              have eK : tkK tb len fr = (if tkE tb len fr - fr ≤ 4 then 258 else 256) := (if_neg ql).trans (if_pos qd)
              have eV : tkV tb len fr = nuV tb fr (min 4 (tkE tb len fr - fr)) := (if_neg ql).trans (if_pos qd)
              have out : ∀ ee, ee = tkE tb len fr → V G X 122 [.ref rp, .ref 30, .int (nI len), .int (nI fr), .int (nI B), .int (nI ee)] [] n2 z2 (rM f0 rp I' kd' pl' vl' st) := by
                rintro ee rfl
                obtain ⟨e1, e2⟩ := tkE_in (tb := tb) hfl
                refine wp_sound (by rw [hi]; exact ok_X5_split) (hd := [7, 48, 51, 68, 85, 93, 96, 113, 130, 141, 161]) 400 _ _ _ _ _ _ ?_
                simp (disch := omega) only [wp, stp, List.mem_cons, List.not_mem_nil, Nat.reduceEqDiff, or_false, or_self, false_or, or_true, true_or, Nat.reduceAdd, ↓reduceIte, List.getElem?_cons_zero, List.getElem?_cons_succ, nthV, List.set_cons_zero, List.set_cons_succ, noL, popA, catS, Value.category, List.length_cons, List.length_nil, Nat.reduceLT, Nat.reduceLeDiff, true_and, and_true, one0, zer1, imp_t, imp_f, ofN_nI, sdead, f20, f21, not_true_eq_false, upC_self, upC_ne, upC_upC, retC, fitC, isRefT, Option.toList_some, Option.toList_none, List.cons_append, List.nil_append, Nat.lt_add_one, Nat.zero_lt_succ, Nat.le_refl, Nat.add_zero, Nat.zero_add, Nat.one_ne_zero, Nat.zero_ne_one, Nat.lt_irrefl, List.length_set, fa_X5_split, hi, hd, hQ, mr_X5_split, rM_0, rM_1, rM_2, rM_3, rM_4, ru_0, ru_1, ru_2, ru_3, ru_4, rO_len, rg_0, rg_1, rg_2, rg_3, rg_4, rg_5, rg_6, rg_7, rg_8, rg_9, rg_10, rs_0, rs_1, rs_5, rs_6, rs_8, rs_9, rs_10]
                refine ⟨by omega, _, t_addNumber hG (by omega) ⟨hrp, h49⟩ hT0 hI5 (by omega) ⟨e1, e2⟩ (tkE_dg ql qd), ?_⟩
                rintro v n3 z3 f3 ⟨rfl, rfl, rfl, rfl⟩
                rw [← eK, ← eV]
                have L := fun u4 u5 => next (tkE tb len fr) _ _ _ _ u4 u5 rfl hws (hI2 (nI (k + 1))) upd_self hA2
                refine wp_sound (by rw [hi]; exact ok_X5_split) (hd := [7, 48, 51, 68, 85, 93, 96, 113, 130, 141, 161]) 400 _ _ _ _ _ _ ?_
                simp (disch := omega) only [wp, stp, List.mem_cons, List.not_mem_nil, Nat.reduceEqDiff, or_false, or_self, false_or, or_true, true_or, Nat.reduceAdd, ↓reduceIte, List.getElem?_cons_zero, List.getElem?_cons_succ, nthV, List.set_cons_zero, List.set_cons_succ, noL, popA, catS, Value.category, List.length_cons, List.length_nil, Nat.reduceLT, Nat.reduceLeDiff, true_and, and_true, one0, zer1, imp_t, imp_f, ofN_nI, sdead, f20, f21, not_true_eq_false, upC_self, upC_ne, upC_upC, retC, fitC, isRefT, Option.toList_some, Option.toList_none, List.cons_append, List.nil_append, Nat.lt_add_one, Nat.zero_lt_succ, Nat.le_refl, Nat.add_zero, Nat.zero_add, Nat.one_ne_zero, Nat.zero_ne_one, Nat.lt_irrefl, List.length_set, fa_X5_split, hi, hd, hQ, mr_X5_split, rM_0, rM_1, rM_2, rM_3, rM_4, ru_0, ru_1, ru_2, ru_3, ru_4, rO_len, rg_0, rg_1, rg_2, rg_3, rg_4, rg_5, rg_6, rg_7, rg_8, rg_9, rg_10, rs_0, rs_1, rs_5, rs_6, rs_8, rs_9, rs_10]
                exact L _ _
              have run : ∀ r ee, ee + r = len → fr + 1 ≤ ee → (∀ j, fr ≤ j → j < ee → isDg (tb j)) → V G X 96 [.ref rp, .ref 30, .int (nI len), .int (nI fr), .int (nI B), .int (nI ee)] [] n2 z2 (rM f0 rp I' kd' pl' vl' st) := by
                intro r
                induction r with
                | zero =>
                  intro ee he h1 ha
                  have L := out ee (by rw [e0]; exact (rn_uniq (by omega) h1 (by omega) (fun j a b => ha j (by omega) b) (fun q => by omega)).symm)
                  refine wp_sound (by rw [hi]; exact ok_X5_split) (hd := [7, 48, 51, 68, 85, 93, 96, 113, 122, 130, 141, 161]) 400 _ _ _ _ _ _ ?_
                  simp only [wp, stp, List.mem_cons, List.not_mem_nil, Nat.reduceEqDiff, or_false, or_self, false_or, or_true, true_or, Nat.reduceAdd, ↓reduceIte, List.getElem?_cons_zero, List.getElem?_cons_succ, nthV, List.set_cons_zero, List.set_cons_succ, noL, popA, catS, Value.category, List.length_cons, List.length_nil, Nat.reduceLT, Nat.reduceLeDiff, true_and, and_true, one0, zer1, imp_t, imp_f, ofN_nI, sdead, f20, f21, not_true_eq_false, upC_ap, upC_upC, retC, fitC, isRefT, Option.toList_some, Option.toList_none, List.cons_append, List.nil_append, Nat.lt_add_one, Nat.zero_lt_succ, Nat.le_refl, Nat.add_zero, Nat.zero_add, Nat.one_ne_zero, Nat.zero_ne_one, Nat.lt_irrefl, List.length_set, fa_X5_split, hi, hd, hQ, mr_X5_split, rM_0, rM_1, rM_2, rM_3, rM_4, ru_0, ru_1, ru_2, ru_3, ru_4, rO_len, rg_0, rg_1, rg_2, rg_3, rg_4, rg_5, rg_6, rg_7, rg_8, rg_9, rg_10, rs_0, rs_1, rs_5, rs_6, rs_8, rs_9, rs_10]
                  try simp only [m1f]
                  try simp (disch := omega) only [nmod, nI_leI, nI_ltI, nI_eq, nI_clamp, vin_nI, nI_1, fa_lit, nI_add, nI_rm3, nI_rm2, pk_rem, pk_mul, pk_sub, pk_div, nI_eM, nI_Me, nI_pM, nI_pMz, nI_pM0, M1_lt, M1_le, nI_ltM, nI_leM, i8_nI, true_and, and_true, false_implies, true_implies, not_false_eq_true, not_true_eq_false, ne_eq, implies_true, Nat.not_lt_zero, Nat.zero_le, ite_min, max0, Nat.reduceLT, Nat.reduceLeDiff, Nat.reduceEqDiff, Nat.reduceAdd, Nat.reduceMul]
                  try simp only [m1u]
                  exact ⟨fun _ => L, fun h => absurd h (by omega)⟩
                | succ r ih2 =>
                  intro ee he h1 ha
                  have c1 := t3 ee (by omega)
                  have c3 : tg ee &&& 255 = nI (tb ee) := by rw [c1.2]; exact (sb_byte _ c1.1).1
                  have hcf : (nI ee).toNatClampNeg = ee := nI_clamp (by omega)
                  refine wp_sound (by rw [hi]; exact ok_X5_split) (hd := [7, 48, 51, 68, 85, 93, 96, 113, 122, 130, 141, 161]) 400 _ _ _ _ _ _ ?_
                  simp only [wp, stp, List.mem_cons, List.not_mem_nil, Nat.reduceEqDiff, or_false, or_self, false_or, or_true, true_or, Nat.reduceAdd, ↓reduceIte, List.getElem?_cons_zero, List.getElem?_cons_succ, nthV, List.set_cons_zero, List.set_cons_succ, noL, popA, catS, Value.category, List.length_cons, List.length_nil, Nat.reduceLT, Nat.reduceLeDiff, true_and, and_true, one0, zer1, imp_t, imp_f, ofN_nI, sdead, f20, f21, not_true_eq_false, upC_ap, upC_upC, retC, fitC, isRefT, Option.toList_some, Option.toList_none, List.cons_append, List.nil_append, Nat.lt_add_one, Nat.zero_lt_succ, Nat.le_refl, Nat.add_zero, Nat.zero_add, Nat.one_ne_zero, Nat.zero_ne_one, Nat.lt_irrefl, List.length_set, fa_X5_split, hi, hd, hQ, mr_X5_split, t1', hcf, c3, rM_0, rM_1, rM_2, rM_3, rM_4, ru_0, ru_1, ru_2, ru_3, ru_4, rO_len, rg_0, rg_1, rg_2, rg_3, rg_4, rg_5, rg_6, rg_7, rg_8, rg_9, rg_10, rs_0, rs_1, rs_5, rs_6, rs_8, rs_9, rs_10]
                  try simp only [m1f]
                  try simp (disch := omega) only [nmod, nI_leI, nI_ltI, nI_eq, nI_clamp, vin_nI, nI_1, fa_lit, nI_add, nI_rm3, nI_rm2, pk_rem, pk_mul, pk_sub, pk_div, nI_eM, nI_Me, nI_pM, nI_pMz, nI_pM0, M1_lt, M1_le, nI_ltM, nI_leM, i8_nI, true_and, and_true, false_implies, true_implies, not_false_eq_true, not_true_eq_false, ne_eq, implies_true, Nat.not_lt_zero, Nat.zero_le, ite_min, max0, Nat.reduceLT, Nat.reduceLeDiff, Nat.reduceEqDiff, Nat.reduceAdd, Nat.reduceMul]
                  try simp only [m1u]
                  refine ⟨fun h => absurd h (by omega), fun _ => ⟨by omega, by omega, _, t_isDigit5 hG (by omega), ?_⟩⟩
                  rintro v n3 z3 f3 ⟨rfl, rfl, rfl, rfl⟩
                  by_cases qn : isDg (tb ee)
                  · have L := ih2 (ee + 1) (by omega) (by omega) (fun j a b => by
                      by_cases q : j = ee
                      · rw [q]; exact qn
                      · exact ha j a (by omega))
                    refine wp_sound (by rw [hi]; exact ok_X5_split) (hd := [7, 48, 51, 68, 85, 93, 96, 113, 130, 141, 161]) 400 _ _ _ _ _ _ ?_
                    simp only [wp, stp, List.mem_cons, List.not_mem_nil, Nat.reduceEqDiff, or_false, or_self, false_or, or_true, true_or, Nat.reduceAdd, ↓reduceIte, List.getElem?_cons_zero, List.getElem?_cons_succ, nthV, List.set_cons_zero, List.set_cons_succ, noL, popA, catS, Value.category, List.length_cons, List.length_nil, Nat.reduceLT, Nat.reduceLeDiff, true_and, and_true, one0, zer1, imp_t, imp_f, ofN_nI, sdead, f20, f21, not_true_eq_false, upC_ap, upC_upC, retC, fitC, isRefT, Option.toList_some, Option.toList_none, List.cons_append, List.nil_append, Nat.lt_add_one, Nat.zero_lt_succ, Nat.le_refl, Nat.add_zero, Nat.zero_add, Nat.one_ne_zero, Nat.zero_ne_one, Nat.lt_irrefl, List.length_set, fa_X5_split, hi, hd, hQ, mr_X5_split, bI_t qn, rM_0, rM_1, rM_2, rM_3, rM_4, ru_0, ru_1, ru_2, ru_3, ru_4, rO_len, rg_0, rg_1, rg_2, rg_3, rg_4, rg_5, rg_6, rg_7, rg_8, rg_9, rg_10, rs_0, rs_1, rs_5, rs_6, rs_8, rs_9, rs_10]
                    try simp only [m1f]
                    try simp (disch := omega) only [nmod, nI_leI, nI_ltI, nI_eq, nI_clamp, vin_nI, nI_1, fa_lit, nI_add, nI_rm3, nI_rm2, pk_rem, pk_mul, pk_sub, pk_div, nI_eM, nI_Me, nI_pM, nI_pMz, nI_pM0, M1_lt, M1_le, nI_ltM, nI_leM, i8_nI, true_and, and_true, false_implies, true_implies, not_false_eq_true, not_true_eq_false, ne_eq, implies_true, Nat.not_lt_zero, Nat.zero_le, ite_min, max0, Nat.reduceLT, Nat.reduceLeDiff, Nat.reduceEqDiff, Nat.reduceAdd, Nat.reduceMul]
                    try simp only [m1u]
                    exact L
                  · have L := out ee (by rw [e0]; exact (rn_uniq (by omega) h1 (by omega) (fun j a b => ha j (by omega) b) (fun q => qn q.2)).symm)
                    refine wp_sound (by rw [hi]; exact ok_X5_split) (hd := [7, 48, 51, 68, 85, 93, 96, 113, 122, 130, 141, 161]) 400 _ _ _ _ _ _ ?_
                    simp only [wp, stp, List.mem_cons, List.not_mem_nil, Nat.reduceEqDiff, or_false, or_self, false_or, or_true, true_or, Nat.reduceAdd, ↓reduceIte, List.getElem?_cons_zero, List.getElem?_cons_succ, nthV, List.set_cons_zero, List.set_cons_succ, noL, popA, catS, Value.category, List.length_cons, List.length_nil, Nat.reduceLT, Nat.reduceLeDiff, true_and, and_true, one0, zer1, imp_t, imp_f, ofN_nI, sdead, f20, f21, not_true_eq_false, upC_ap, upC_upC, retC, fitC, isRefT, Option.toList_some, Option.toList_none, List.cons_append, List.nil_append, Nat.lt_add_one, Nat.zero_lt_succ, Nat.le_refl, Nat.add_zero, Nat.zero_add, Nat.one_ne_zero, Nat.zero_ne_one, Nat.lt_irrefl, List.length_set, fa_X5_split, hi, hd, hQ, mr_X5_split, bI_f qn, rM_0, rM_1, rM_2, rM_3, rM_4, ru_0, ru_1, ru_2, ru_3, ru_4, rO_len, rg_0, rg_1, rg_2, rg_3, rg_4, rg_5, rg_6, rg_7, rg_8, rg_9, rg_10, rs_0, rs_1, rs_5, rs_6, rs_8, rs_9, rs_10]
                    try simp only [m1f]
                    try simp (disch := omega) only [nmod, nI_leI, nI_ltI, nI_eq, nI_clamp, vin_nI, nI_1, fa_lit, nI_add, nI_rm3, nI_rm2, pk_rem, pk_mul, pk_sub, pk_div, nI_eM, nI_Me, nI_pM, nI_pMz, nI_pM0, M1_lt, M1_le, nI_ltM, nI_leM, i8_nI, true_and, and_true, false_implies, true_implies, not_false_eq_true, not_true_eq_false, ne_eq, implies_true, Nat.not_lt_zero, Nat.zero_le, ite_min, max0, Nat.reduceLT, Nat.reduceLeDiff, Nat.reduceEqDiff, Nat.reduceAdd, Nat.reduceMul]
                    try simp only [m1u]
                    exact L
              have L := run (len - (fr + 1)) (fr + 1) (by omega) (Nat.le_refl _) (fun j a b => by
                have : j = fr := by omega
                rw [this]; exact qd)
              refine wp_sound (by rw [hi]; exact ok_X5_split) (hd := [7, 48, 51, 68, 85, 93, 96, 113, 130, 141, 161]) 400 _ _ _ _ _ _ ?_
              simp only [wp, stp, List.mem_cons, List.not_mem_nil, Nat.reduceEqDiff, or_false, or_self, false_or, or_true, true_or, Nat.reduceAdd, ↓reduceIte, List.getElem?_cons_zero, List.getElem?_cons_succ, nthV, List.set_cons_zero, List.set_cons_succ, noL, popA, catS, Value.category, List.length_cons, List.length_nil, Nat.reduceLT, Nat.reduceLeDiff, true_and, and_true, one0, zer1, imp_t, imp_f, ofN_nI, sdead, f20, f21, not_true_eq_false, upC_ap, upC_upC, retC, fitC, isRefT, Option.toList_some, Option.toList_none, List.cons_append, List.nil_append, Nat.lt_add_one, Nat.zero_lt_succ, Nat.le_refl, Nat.add_zero, Nat.zero_add, Nat.one_ne_zero, Nat.zero_ne_one, Nat.lt_irrefl, List.length_set, fa_X5_split, hi, hd, hQ, mr_X5_split, bI_t qd2, rM_0, rM_1, rM_2, rM_3, rM_4, ru_0, ru_1, ru_2, ru_3, ru_4, rO_len, rg_0, rg_1, rg_2, rg_3, rg_4, rg_5, rg_6, rg_7, rg_8, rg_9, rg_10, rs_0, rs_1, rs_5, rs_6, rs_8, rs_9, rs_10]
              try simp only [m1f]
              try simp (disch := omega) only [nmod, nI_leI, nI_ltI, nI_eq, nI_clamp, vin_nI, nI_1, fa_lit, nI_add, nI_rm3, nI_rm2, pk_rem, pk_mul, pk_sub, pk_div, nI_eM, nI_Me, nI_pM, nI_pMz, nI_pM0, M1_lt, M1_le, nI_ltM, nI_leM, i8_nI, true_and, and_true, false_implies, true_implies, not_false_eq_true, not_true_eq_false, ne_eq, implies_true, Nat.not_lt_zero, Nat.zero_le, ite_min, max0, Nat.reduceLT, Nat.reduceLeDiff, Nat.reduceEqDiff, Nat.reduceAdd, Nat.reduceMul]
              try simp only [m1u]
              exact L
            · have qd2 : ¬ isDg B := by rw [hB]; exact qd
              have e0 : tkE tb len fr = fr + 1 := (if_neg ql).trans (if_neg qd)
              have eK : tkK tb len fr = B := ((if_neg ql).trans (if_neg qd)).trans hB.symm
              have eV : tkV tb len fr = 0 := (if_neg ql).trans (if_neg qd)
              rw [eK, eV] at hA2
              have L := fun u4 u5 => next (fr + 1) _ _ _ _ u4 u5 e0.symm hws (hI2 (nI (k + 1))) upd_self hA2
              refine wp_sound (by rw [hi]; exact ok_X5_split) (hd := [7, 48, 51, 68, 85, 93, 96, 113, 130, 141, 161]) 400 _ _ _ _ _ _ ?_
              simp only [wp, stp, List.mem_cons, List.not_mem_nil, Nat.reduceEqDiff, or_false, or_self, false_or, or_true, true_or, Nat.reduceAdd, ↓reduceIte, List.getElem?_cons_zero, List.getElem?_cons_succ, nthV, List.set_cons_zero, List.set_cons_succ, noL, popA, catS, Value.category, List.length_cons, List.length_nil, Nat.reduceLT, Nat.reduceLeDiff, true_and, and_true, one0, zer1, imp_t, imp_f, ofN_nI, sdead, f20, f21, not_true_eq_false, upC_ap, upC_upC, retC, fitC, isRefT, Option.toList_some, Option.toList_none, List.cons_append, List.nil_append, Nat.lt_add_one, Nat.zero_lt_succ, Nat.le_refl, Nat.add_zero, Nat.zero_add, Nat.one_ne_zero, Nat.zero_ne_one, Nat.lt_irrefl, List.length_set, fa_X5_split, hi, hd, hQ, mr_X5_split, bI_f qd2, rM_0, rM_1, rM_2, rM_3, rM_4, ru_0, ru_1, ru_2, ru_3, ru_4, rO_len, rg_0, rg_1, rg_2, rg_3, rg_4, rg_5, rg_6, rg_7, rg_8, rg_9, rg_10, rs_0, rs_1, rs_5, rs_6, rs_8, rs_9, rs_10]
              try simp only [m1f]
              try simp (disch := omega) only [nmod, nI_leI, nI_ltI, nI_eq, nI_clamp, vin_nI, nI_1, fa_lit, nI_add, nI_rm3, nI_rm2, pk_rem, pk_mul, pk_sub, pk_div, nI_eM, nI_Me, nI_pM, nI_pMz, nI_pM0, M1_lt, M1_le, nI_ltM, nI_leM, i8_nI, true_and, and_true, false_implies, true_implies, not_false_eq_true, not_true_eq_false, ne_eq, implies_true, Nat.not_lt_zero, Nat.zero_le, ite_min, max0, Nat.reduceLT, Nat.reduceLeDiff, Nat.reduceEqDiff, Nat.reduceAdd, Nat.reduceMul]
              try simp only [m1u]
              refine ⟨by omega, _, t_addToken hG hrp hI5 (by omega) _ _ _, ?_⟩
              rintro v n3 z3 f3 ⟨rfl, rfl, rfl, rfl⟩
              exact L _ _
  have L := loop len 0 0 (upd I 5 (nI 0)) kd pl vl dead dead (by omega) (by omega) (by omega) rfl (fun j hj => absurd hj (Nat.not_lt_zero j)) (fun j hj => by rw [upd_ap, if_neg hj]) upd_self (fun j hj => absurd hj (Nat.not_lt_zero j))
  refine wp_sound (by rw [hi]; exact ok_X5_split) (hd := [7, 48, 51, 68, 85, 93, 96, 113, 130, 141, 161]) 400 _ _ _ _ _ _ ?_
  simp (disch := omega) only [wp, stp, List.mem_cons, List.not_mem_nil, Nat.reduceEqDiff, or_false, or_self, false_or, or_true, true_or, Nat.reduceAdd, ↓reduceIte, List.getElem?_cons_zero, List.getElem?_cons_succ, nthV, List.set_cons_zero, List.set_cons_succ, noL, popA, catS, Value.category, List.length_cons, List.length_nil, Nat.reduceLT, Nat.reduceLeDiff, true_and, and_true, one0, zer1, imp_t, imp_f, ofN_nI, sdead, f20, f21, not_true_eq_false, upC_self, upC_ne, upC_upC, retC, fitC, isRefT, Option.toList_some, Option.toList_none, List.cons_append, List.nil_append, Nat.lt_add_one, Nat.zero_lt_succ, Nat.le_refl, Nat.add_zero, Nat.zero_add, Nat.one_ne_zero, Nat.zero_ne_one, Nat.lt_irrefl, List.length_set, fa_X5_split, hi, hd, hQ, mr_X5_split, o0, rM_0, rM_1, rM_2, rM_3, rM_4, ru_0, ru_1, ru_2, ru_3, ru_4, rO_len, rg_0, rg_1, rg_2, rg_3, rg_4, rg_5, rg_6, rg_7, rg_8, rg_9, rg_10, rs_0, rs_1, rs_5, rs_6, rs_8, rs_9, rs_10]
  exact L
end Tok2
