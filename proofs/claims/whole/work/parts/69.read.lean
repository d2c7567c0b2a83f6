-- Reader: words, numbers, tokens
set_option maxRecDepth 100000
set_option maxHeartbeats 4000000
/-- the texts among the old cells -/
def StrA (f : Mf) : Prop := ∀ j, j < 13 → f (1000010 + 2 * j) = cO 10 [.ref (1000011 + 2 * j), .int 0] ∧ ∃ g, f (1000011 + 2 * j) = cB (wds j).length g ∧ ∀ i, i < (wds j).length → g i = nI ((wds j).getD i 0)
theorem wds_in : ∀ j : Fin 13, (wds j.val).length ≤ 7 ∧ 1 ≤ (wds j.val).length ∧ ∀ i : Fin 7, i.val < (wds j.val).length → (97 ≤ (wds j.val).getD i.val 0 ∧ (wds j.val).getD i.val 0 ≤ 122) := by decide +kernel
theorem byte_lo {c : Nat} (h : c < 128) : sb_b c = nI c := i8_nI h
theorem and255 {c : Nat} (h : c < 128) : nI c &&& 255 = nI c := by
  have := (sb_byte c (by omega)).1
  rw [byte_lo h] at this
  exact this
theorem u16f : ∀ c : Fin 128, (nI c.val).toUInt32.toUInt16.toUInt32.toInt32 = nI c.val := by decide +kernel
theorem u16_lo {c : Nat} (h : c < 128) : (nI c).toUInt32.toUInt16.toUInt32.toInt32 = nI c := u16f ⟨c, h⟩
section Str
variable {G : Gam} {d n z : Nat} {f : Mf}
theorem t_coder (hG : Ok G) {p : Nat} {v : Value} (h : f p = cO 10 [v, .int 0]) : Tr G d 2 [.ref p] n z f (Same (.int 0) n z f) := by
  refine Tr.of2 (ls0 := [.ref p]) hG mo_J0_coder_7d493 (Nat.le_of_ble_eq_true rfl) rfl ?_
  intro X hi hd hXn hXz hXf hQ
  refine wp_sound (by rw [hi]; exact ok_J0_coder_7d493) (hd := []) 400 _ _ _ _ _ _ ?_
  simp only [wp, stp, List.mem_cons, List.not_mem_nil, Nat.reduceEqDiff, or_false, or_self, false_or, or_true, true_or, Nat.reduceAdd, ↓reduceIte, List.getElem?_cons_zero, List.getElem?_cons_succ, nthV, List.set_cons_zero, List.set_cons_succ, noL, popA, catS, Value.category, List.length_cons, List.length_nil, Nat.reduceLT, Nat.reduceLeDiff, true_and, and_true, one0, zer1, imp_t, imp_f, ofN_nI, sdead, f20, f21, not_true_eq_false, upC_ap, upC_upC, retC, fitC, isRefT, Option.toList_some, Option.toList_none, List.cons_append, List.nil_append, Nat.lt_add_one, Nat.zero_lt_succ, Nat.le_refl, Nat.add_zero, Nat.zero_add, Nat.one_ne_zero, Nat.zero_ne_one, Nat.lt_irrefl, List.length_set, fa_J0_coder_7d493, hi, hd, hQ, mr_J0_coder_7d493, h, sv]
  exact ⟨by decide, Same.i rfl⟩
theorem t_length (hG : Ok G) (hd1 : 1 ≤ d) {p q l : Nat} {g : Nat → Int32} (h : f p = cO 10 [.ref q, .int 0]) (h2 : f q = cB l g) (hl : l < 1000) : Tr G d 4 [.ref p] n z f (Same (.int (nI l)) n z f) := by
  refine Tr.of2 (ls0 := [.ref p]) hG mo_J0_length_8abf5 (Nat.le_of_ble_eq_true rfl) rfl ?_
  intro X hi hd hXn hXz hXf hQ
  refine wp_sound (by rw [hi]; exact ok_J0_length_8abf5) (hd := [9]) 400 _ _ _ _ _ _ ?_
  simp only [wp, stp, List.mem_cons, List.not_mem_nil, Nat.reduceEqDiff, or_false, or_self, false_or, or_true, true_or, Nat.reduceAdd, ↓reduceIte, List.getElem?_cons_zero, List.getElem?_cons_succ, nthV, List.set_cons_zero, List.set_cons_succ, noL, popA, catS, Value.category, List.length_cons, List.length_nil, Nat.reduceLT, Nat.reduceLeDiff, true_and, and_true, one0, zer1, imp_t, imp_f, ofN_nI, sdead, f20, f21, not_true_eq_false, upC_ap, upC_upC, retC, fitC, isRefT, Option.toList_some, Option.toList_none, List.cons_append, List.nil_append, Nat.lt_add_one, Nat.zero_lt_succ, Nat.le_refl, Nat.add_zero, Nat.zero_add, Nat.one_ne_zero, Nat.zero_ne_one, Nat.lt_irrefl, List.length_set, fa_J0_length_8abf5, hi, hd, hQ, mr_J0_length_8abf5, h, h2]
  refine ⟨hd1, _, t_coder hG h, ?_⟩
  rintro v n' z' f' ⟨rfl, rfl, rfl, rfl⟩
  refine wp_sound (by rw [hi]; exact ok_J0_length_8abf5) (hd := [9]) 400 _ _ _ _ _ _ ?_
  simp only [wp, stp, List.mem_cons, List.not_mem_nil, Nat.reduceEqDiff, or_false, or_self, false_or, or_true, true_or, Nat.reduceAdd, ↓reduceIte, List.getElem?_cons_zero, List.getElem?_cons_succ, nthV, List.set_cons_zero, List.set_cons_succ, noL, popA, catS, Value.category, List.length_cons, List.length_nil, Nat.reduceLT, Nat.reduceLeDiff, true_and, and_true, one0, zer1, imp_t, imp_f, ofN_nI, sdead, f20, f21, not_true_eq_false, upC_ap, upC_upC, retC, fitC, isRefT, Option.toList_some, Option.toList_none, List.cons_append, List.nil_append, Nat.lt_add_one, Nat.zero_lt_succ, Nat.le_refl, Nat.add_zero, Nat.zero_add, Nat.one_ne_zero, Nat.zero_ne_one, Nat.lt_irrefl, List.length_set, fa_J0_length_8abf5, hi, hd, hQ, mr_J0_length_8abf5]
  exact Same.i (sb_shr0 _)
theorem t_isLatin1 (hG : Ok G) {p : Nat} {v : Value} (h : f p = cO 10 [v, .int 0]) : Tr G d 3 [.ref p] n z f (Same (.int 1) n z f) := by
  refine Tr.of2 (ls0 := [.ref p]) hG mo_J0_isLatin1_aae02 (Nat.le_of_ble_eq_true rfl) rfl ?_
  intro X hi hd hXn hXz hXf hQ
  refine wp_sound (by rw [hi]; exact ok_J0_isLatin1_aae02) (hd := []) 400 _ _ _ _ _ _ ?_
  simp only [wp, stp, List.mem_cons, List.not_mem_nil, Nat.reduceEqDiff, or_false, or_self, false_or, or_true, true_or, Nat.reduceAdd, ↓reduceIte, List.getElem?_cons_zero, List.getElem?_cons_succ, nthV, List.set_cons_zero, List.set_cons_succ, noL, popA, catS, Value.category, List.length_cons, List.length_nil, Nat.reduceLT, Nat.reduceLeDiff, true_and, and_true, one0, zer1, imp_t, imp_f, ofN_nI, sdead, f20, f21, not_true_eq_false, upC_ap, upC_upC, retC, fitC, isRefT, Option.toList_some, Option.toList_none, List.cons_append, List.nil_append, Nat.lt_add_one, Nat.zero_lt_succ, Nat.le_refl, Nat.add_zero, Nat.zero_add, Nat.one_ne_zero, Nat.zero_ne_one, Nat.lt_irrefl, List.length_set, fa_J0_isLatin1_aae02, hi, hd, hQ, mr_J0_isLatin1_aae02, h, sv]
  exact fun _ => Same.i rfl
theorem t_checkIndex3 (hG : Ok G) {i l : Nat} (hi0 : i < l) (hl : l < 1000) {v : Value} (hv : v = .null ∨ v = .ref 1000002) : Tr G d 6 [.int (nI i), .int (nI l), v] n z f (Same (.int (nI i)) n z f) := by
  rcases hv with rfl | rfl
  · refine Tr.of2 (ls0 := [.int (nI i), .int (nI l), .null]) hG mo_J3_checkIndex_8e157 (Nat.le_of_ble_eq_true rfl) rfl ?_
    intro X hi hd hXn hXz hXf hQ
    refine wp_sound (by rw [hi]; exact ok_J3_checkIndex_8e157) (hd := []) 400 _ _ _ _ _ _ ?_
    simp only [wp, stp, List.mem_cons, List.not_mem_nil, Nat.reduceEqDiff, or_false, or_self, false_or, or_true, true_or, Nat.reduceAdd, ↓reduceIte, List.getElem?_cons_zero, List.getElem?_cons_succ, nthV, List.set_cons_zero, List.set_cons_succ, noL, popA, catS, Value.category, List.length_cons, List.length_nil, Nat.reduceLT, Nat.reduceLeDiff, true_and, and_true, one0, zer1, imp_t, imp_f, ofN_nI, sdead, f20, f21, not_true_eq_false, upC_ap, upC_upC, retC, fitC, isRefT, Option.toList_some, Option.toList_none, List.cons_append, List.nil_append, Nat.lt_add_one, Nat.zero_lt_succ, Nat.le_refl, Nat.add_zero, Nat.zero_add, Nat.one_ne_zero, Nat.zero_ne_one, Nat.lt_irrefl, List.length_set, fa_J3_checkIndex_8e157, hi, hd, hQ, mr_J3_checkIndex_8e157]
    try simp only [m1f]
    try simp (disch := omega) only [nmod, nI_leI, nI_ltI, nI_eq, nI_clamp, vin_nI, nI_1, fa_lit, nI_add, nI_rm3, nI_rm2, pk_rem, pk_mul, pk_sub, pk_div, nI_eM, nI_Me, nI_pM, nI_pMz, nI_pM0, M1_lt, M1_le, nI_ltM, nI_leM, i8_nI, true_and, and_true, false_implies, true_implies, not_false_eq_true, not_true_eq_false, ne_eq, implies_true, Nat.not_lt_zero, Nat.zero_le, ite_min, max0, Nat.reduceLT, Nat.reduceLeDiff, Nat.reduceEqDiff, Nat.reduceAdd, Nat.reduceMul]
    try simp only [m1u]
    exact ⟨fun _ => Same.i rfl, fun h => absurd hi0 h⟩
  · refine Tr.of2 (ls0 := [.int (nI i), .int (nI l), .ref 1000002]) hG mo_J3_checkIndex_8e157 (Nat.le_of_ble_eq_true rfl) rfl ?_
    intro X hi hd hXn hXz hXf hQ
    refine wp_sound (by rw [hi]; exact ok_J3_checkIndex_8e157) (hd := []) 400 _ _ _ _ _ _ ?_
    simp only [wp, stp, List.mem_cons, List.not_mem_nil, Nat.reduceEqDiff, or_false, or_self, false_or, or_true, true_or, Nat.reduceAdd, ↓reduceIte, List.getElem?_cons_zero, List.getElem?_cons_succ, nthV, List.set_cons_zero, List.set_cons_succ, noL, popA, catS, Value.category, List.length_cons, List.length_nil, Nat.reduceLT, Nat.reduceLeDiff, true_and, and_true, one0, zer1, imp_t, imp_f, ofN_nI, sdead, f20, f21, not_true_eq_false, upC_ap, upC_upC, retC, fitC, isRefT, Option.toList_some, Option.toList_none, List.cons_append, List.nil_append, Nat.lt_add_one, Nat.zero_lt_succ, Nat.le_refl, Nat.add_zero, Nat.zero_add, Nat.one_ne_zero, Nat.zero_ne_one, Nat.lt_irrefl, List.length_set, fa_J3_checkIndex_8e157, hi, hd, hQ, mr_J3_checkIndex_8e157]
    try simp only [m1f]
    try simp (disch := omega) only [nmod, nI_leI, nI_ltI, nI_eq, nI_clamp, vin_nI, nI_1, fa_lit, nI_add, nI_rm3, nI_rm2, pk_rem, pk_mul, pk_sub, pk_div, nI_eM, nI_Me, nI_pM, nI_pMz, nI_pM0, M1_lt, M1_le, nI_ltM, nI_leM, i8_nI, true_and, and_true, false_implies, true_implies, not_false_eq_true, not_true_eq_false, ne_eq, implies_true, Nat.not_lt_zero, Nat.zero_le, ite_min, max0, Nat.reduceLT, Nat.reduceLeDiff, Nat.reduceEqDiff, Nat.reduceAdd, Nat.reduceMul]
    try simp only [m1u]
    exact ⟨fun _ => Same.i rfl, fun h => absurd hi0 h⟩
theorem t_checkIndex (hG : Ok G) (hd1 : 1 ≤ d) {i l : Nat} (hi0 : i < l) (hl : l < 1000) : Tr G d 1 [.int (nI i), .int (nI l)] n z f (fun v n' z' f' => v = none ∧ n' = n ∧ z' = z ∧ f' = f) := by
  refine Tr.of2 (ls0 := [.int (nI i), .int (nI l)]) hG mo_J0_checkIndex_df160 (Nat.le_of_ble_eq_true rfl) rfl ?_
  intro X hi hd hXn hXz hXf hQ
  refine wp_sound (by rw [hi]; exact ok_J0_checkIndex_df160) (hd := [8]) 400 _ _ _ _ _ _ ?_
  simp only [wp, stp, List.mem_cons, List.not_mem_nil, Nat.reduceEqDiff, or_false, or_self, false_or, or_true, true_or, Nat.reduceAdd, ↓reduceIte, List.getElem?_cons_zero, List.getElem?_cons_succ, nthV, List.set_cons_zero, List.set_cons_succ, noL, popA, catS, Value.category, List.length_cons, List.length_nil, Nat.reduceLT, Nat.reduceLeDiff, true_and, and_true, one0, zer1, imp_t, imp_f, ofN_nI, sdead, f20, f21, not_true_eq_false, upC_ap, upC_upC, retC, fitC, isRefT, Option.toList_some, Option.toList_none, List.cons_append, List.nil_append, Nat.lt_add_one, Nat.zero_lt_succ, Nat.le_refl, Nat.add_zero, Nat.zero_add, Nat.one_ne_zero, Nat.zero_ne_one, Nat.lt_irrefl, List.length_set, fa_J0_checkIndex_df160, hi, hd, hQ, mr_J0_checkIndex_df160]
  refine ⟨⟨hd1, _, t_checkIndex3 hG hi0 hl (Or.inl rfl), ?_⟩, hd1, _, t_checkIndex3 hG hi0 hl (Or.inr rfl), ?_⟩
  · rintro v n' z' f' ⟨rfl, rfl, rfl, rfl⟩
    refine wp_sound (by rw [hi]; exact ok_J0_checkIndex_df160) (hd := [8]) 400 _ _ _ _ _ _ ?_
    simp only [wp, stp, List.mem_cons, List.not_mem_nil, Nat.reduceEqDiff, or_false, or_self, false_or, or_true, true_or, Nat.reduceAdd, ↓reduceIte, List.getElem?_cons_zero, List.getElem?_cons_succ, nthV, List.set_cons_zero, List.set_cons_succ, noL, popA, catS, Value.category, List.length_cons, List.length_nil, Nat.reduceLT, Nat.reduceLeDiff, true_and, and_true, one0, zer1, imp_t, imp_f, ofN_nI, sdead, f20, f21, not_true_eq_false, upC_ap, upC_upC, retC, fitC, isRefT, Option.toList_some, Option.toList_none, List.cons_append, List.nil_append, Nat.lt_add_one, Nat.zero_lt_succ, Nat.le_refl, Nat.add_zero, Nat.zero_add, Nat.one_ne_zero, Nat.zero_ne_one, Nat.lt_irrefl, List.length_set, fa_J0_checkIndex_df160, hi, hd, hQ, mr_J0_checkIndex_df160]
  · rintro v n' z' f' ⟨rfl, rfl, rfl, rfl⟩
    refine wp_sound (by rw [hi]; exact ok_J0_checkIndex_df160) (hd := [8]) 400 _ _ _ _ _ _ ?_
    simp only [wp, stp, List.mem_cons, List.not_mem_nil, Nat.reduceEqDiff, or_false, or_self, false_or, or_true, true_or, Nat.reduceAdd, ↓reduceIte, List.getElem?_cons_zero, List.getElem?_cons_succ, nthV, List.set_cons_zero, List.set_cons_succ, noL, popA, catS, Value.category, List.length_cons, List.length_nil, Nat.reduceLT, Nat.reduceLeDiff, true_and, and_true, one0, zer1, imp_t, imp_f, ofN_nI, sdead, f20, f21, not_true_eq_false, upC_ap, upC_upC, retC, fitC, isRefT, Option.toList_some, Option.toList_none, List.cons_append, List.nil_append, Nat.lt_add_one, Nat.zero_lt_succ, Nat.le_refl, Nat.add_zero, Nat.zero_add, Nat.one_ne_zero, Nat.zero_ne_one, Nat.lt_irrefl, List.length_set, fa_J0_checkIndex_df160, hi, hd, hQ, mr_J0_checkIndex_df160]
theorem t_charAt1 (hG : Ok G) (hd1 : 2 ≤ d) {q l i c : Nat} {g : Nat → Int32} (h2 : f q = cB l g) (hl : l < 1000) (hi0 : i < l) (hc : c < 128) (hg : g i = nI c) : Tr G d 5 [.ref q, .int (nI i)] n z f (Same (.int (nI c)) n z f) := by
  have hci : (nI i).toNatClampNeg = i := nI_clamp (by omega)
  refine Tr.of2 (ls0 := [.ref q, .int (nI i)]) hG mo_J1_charAt_3b067 (Nat.le_of_ble_eq_true rfl) rfl ?_
  intro X hi hd hXn hXz hXf hQ
  refine wp_sound (by rw [hi]; exact ok_J1_charAt_3b067) (hd := [6]) 400 _ _ _ _ _ _ ?_
  simp only [wp, stp, List.mem_cons, List.not_mem_nil, Nat.reduceEqDiff, or_false, or_self, false_or, or_true, true_or, Nat.reduceAdd, ↓reduceIte, List.getElem?_cons_zero, List.getElem?_cons_succ, nthV, List.set_cons_zero, List.set_cons_succ, noL, popA, catS, Value.category, List.length_cons, List.length_nil, Nat.reduceLT, Nat.reduceLeDiff, true_and, and_true, one0, zer1, imp_t, imp_f, ofN_nI, sdead, f20, f21, not_true_eq_false, upC_ap, upC_upC, retC, fitC, isRefT, Option.toList_some, Option.toList_none, List.cons_append, List.nil_append, Nat.lt_add_one, Nat.zero_lt_succ, Nat.le_refl, Nat.add_zero, Nat.zero_add, Nat.one_ne_zero, Nat.zero_ne_one, Nat.lt_irrefl, List.length_set, fa_J1_charAt_3b067, hi, hd, hQ, mr_J1_charAt_3b067, h2]
  refine ⟨by omega, _, t_checkIndex hG (by omega) hi0 hl, ?_⟩
  rintro v n' z' f' ⟨rfl, rfl, rfl, rfl⟩
  refine wp_sound (by rw [hi]; exact ok_J1_charAt_3b067) (hd := [6]) 400 _ _ _ _ _ _ ?_
  simp only [wp, stp, List.mem_cons, List.not_mem_nil, Nat.reduceEqDiff, or_false, or_self, false_or, or_true, true_or, Nat.reduceAdd, ↓reduceIte, List.getElem?_cons_zero, List.getElem?_cons_succ, nthV, List.set_cons_zero, List.set_cons_succ, noL, popA, catS, Value.category, List.length_cons, List.length_nil, Nat.reduceLT, Nat.reduceLeDiff, true_and, and_true, one0, zer1, imp_t, imp_f, ofN_nI, sdead, f20, f21, not_true_eq_false, upC_ap, upC_upC, retC, fitC, isRefT, Option.toList_some, Option.toList_none, List.cons_append, List.nil_append, Nat.lt_add_one, Nat.zero_lt_succ, Nat.le_refl, Nat.add_zero, Nat.zero_add, Nat.one_ne_zero, Nat.zero_ne_one, Nat.lt_irrefl, List.length_set, fa_J1_charAt_3b067, hi, hd, hQ, mr_J1_charAt_3b067, h2, hci, hg, and255 hc]
  have e := (sb_byte c (by omega)).2.1
  rw [e]
  exact ⟨(vin_nI (by omega)).mpr hi0, u16_lo hc, Same.i rfl⟩
theorem t_charAt (hG : Ok G) (hd1 : 3 ≤ d) {p q l i c : Nat} {g : Nat → Int32} (h : f p = cO 10 [.ref q, .int 0]) (h2 : f q = cB l g) (hl : l < 1000) (hi0 : i < l) (hc : c < 128) (hg : g i = nI c) : Tr G d 0 [.ref p, .int (nI i)] n z f (Same (.int (nI c)) n z f) := by
  refine Tr.of2 (ls0 := [.ref p, .int (nI i)]) hG mo_J0_charAt_5068e (Nat.le_of_ble_eq_true rfl) rfl ?_
  intro X hi hd hXn hXz hXf hQ
  refine wp_sound (by rw [hi]; exact ok_J0_charAt_5068e) (hd := [4, 15]) 400 _ _ _ _ _ _ ?_
  simp only [wp, stp, List.mem_cons, List.not_mem_nil, Nat.reduceEqDiff, or_false, or_self, false_or, or_true, true_or, Nat.reduceAdd, ↓reduceIte, List.getElem?_cons_zero, List.getElem?_cons_succ, nthV, List.set_cons_zero, List.set_cons_succ, noL, popA, catS, Value.category, List.length_cons, List.length_nil, Nat.reduceLT, Nat.reduceLeDiff, true_and, and_true, one0, zer1, imp_t, imp_f, ofN_nI, sdead, f20, f21, not_true_eq_false, upC_ap, upC_upC, retC, fitC, isRefT, Option.toList_some, Option.toList_none, List.cons_append, List.nil_append, Nat.lt_add_one, Nat.zero_lt_succ, Nat.le_refl, Nat.add_zero, Nat.zero_add, Nat.one_ne_zero, Nat.zero_ne_one, Nat.lt_irrefl, List.length_set, fa_J0_charAt_5068e, hi, hd, hQ, mr_J0_charAt_5068e, h]
  refine ⟨by omega, _, t_isLatin1 hG h, ?_⟩
  rintro v n' z' f' ⟨rfl, rfl, rfl, rfl⟩
  refine wp_sound (by rw [hi]; exact ok_J0_charAt_5068e) (hd := [4, 15]) 400 _ _ _ _ _ _ ?_
  simp only [wp, stp, List.mem_cons, List.not_mem_nil, Nat.reduceEqDiff, or_false, or_self, false_or, or_true, true_or, Nat.reduceAdd, ↓reduceIte, List.getElem?_cons_zero, List.getElem?_cons_succ, nthV, List.set_cons_zero, List.set_cons_succ, noL, popA, catS, Value.category, List.length_cons, List.length_nil, Nat.reduceLT, Nat.reduceLeDiff, true_and, and_true, one0, zer1, imp_t, imp_f, ofN_nI, sdead, f20, f21, not_true_eq_false, upC_ap, upC_upC, retC, fitC, isRefT, Option.toList_some, Option.toList_none, List.cons_append, List.nil_append, Nat.lt_add_one, Nat.zero_lt_succ, Nat.le_refl, Nat.add_zero, Nat.zero_add, Nat.one_ne_zero, Nat.zero_ne_one, Nat.lt_irrefl, List.length_set, fa_J0_charAt_5068e, hi, hd, hQ, mr_J0_charAt_5068e, h]
  refine ⟨by omega, _, t_charAt1 hG (by omega) h2 hl hi0 hc hg, ?_⟩
  rintro v n' z' f' ⟨rfl, rfl, rfl, rfl⟩
  refine wp_sound (by rw [hi]; exact ok_J0_charAt_5068e) (hd := [4, 15]) 400 _ _ _ _ _ _ ?_
  simp only [wp, stp, List.mem_cons, List.not_mem_nil, Nat.reduceEqDiff, or_false, or_self, false_or, or_true, true_or, Nat.reduceAdd, ↓reduceIte, List.getElem?_cons_zero, List.getElem?_cons_succ, nthV, List.set_cons_zero, List.set_cons_succ, noL, popA, catS, Value.category, List.length_cons, List.length_nil, Nat.reduceLT, Nat.reduceLeDiff, true_and, and_true, one0, zer1, imp_t, imp_f, ofN_nI, sdead, f20, f21, not_true_eq_false, upC_ap, upC_upC, retC, fitC, isRefT, Option.toList_some, Option.toList_none, List.cons_append, List.nil_append, Nat.lt_add_one, Nat.zero_lt_succ, Nat.le_refl, Nat.add_zero, Nat.zero_add, Nat.one_ne_zero, Nat.zero_ne_one, Nat.lt_irrefl, List.length_set, fa_J0_charAt_5068e, hi, hd, hQ, mr_J0_charAt_5068e]
  exact ⟨u16_lo hc, Same.i rfl⟩
/-- the tape: bytes tb -/
def TpA (f : Mf) (tp len : Nat) (tb : Nat → Nat) : Prop := ∃ g, f tp = cB 400 g ∧ len ≤ 400 ∧ ∀ j, j < len → tb j < 256 ∧ g j = sb_b (tb j)
theorem isLt_128 {c : Nat} (h : isLt c) : c < 128 := by unfold isLt at h; omega
theorem t_isWord (hG : Ok G) (hd1 : 4 ≤ d) (hA : StrA f) {tp len i e j : Nat} {tb : Nat → Nat} (hT : TpA f tp len tb) (hj : j < 13) (hie : i ≤ e ∧ e ≤ len) (hL : ∀ x, i ≤ x → x < e → isLt (tb x)) {sp : Nat} (hsp : sp = 1000010 + 2 * j) : Tr G d 64 [.ref tp, .int (nI i), .int (nI e), .ref sp] n z f (Same (.int (bI (isW tb (wds j) i e))) n z f) := by
  subst hsp
  obtain ⟨a1, g, a2, a3⟩ := hA j hj
  obtain ⟨tg, t1, t2, t3⟩ := hT
  obtain ⟨w1, w2, w3⟩ := wds_in ⟨j, hj⟩
  have w1 : (wds j).length ≤ 7 := w1
  have w3' : ∀ i, i < (wds j).length → (wds j).getD i 0 < 128 := fun i hi0 => by
    have := w3 ⟨i, by omega⟩ hi0
    have : (wds j).getD i 0 ≤ 122 := this.2
    omega
  refine Tr.of2 (ls0 := [.ref tp, .int (nI i), .int (nI e), .ref (1000010 + 2 * j), dead]) hG mo_X5_isWord (Nat.le_of_ble_eq_true rfl) rfl ?_
  intro X hi hd hXn hXz hXf hQ
  have loop : ∀ m k, k + m = (wds j).length → e - i = (wds j).length → (∀ x, x < k → tb (i + x) = (wds j).getD x 0) → V G X 15 [.ref tp, .int (nI i), .int (nI e), .ref (1000010 + 2 * j), .int (nI k)] [] n z f := by
    intro m
    induction m with
    | zero =>
      intro k hk hl hx
      refine wp_sound (by rw [hi]; exact ok_X5_isWord) (hd := [7, 15, 21, 36]) 400 _ _ _ _ _ _ ?_
      simp only [wp, stp, List.mem_cons, List.not_mem_nil, Nat.reduceEqDiff, or_false, or_self, false_or, or_true, true_or, Nat.reduceAdd, ↓reduceIte, List.getElem?_cons_zero, List.getElem?_cons_succ, nthV, List.set_cons_zero, List.set_cons_succ, noL, popA, catS, Value.category, List.length_cons, List.length_nil, Nat.reduceLT, Nat.reduceLeDiff, true_and, and_true, one0, zer1, imp_t, imp_f, ofN_nI, sdead, f20, f21, not_true_eq_false, upC_ap, upC_upC, retC, fitC, isRefT, Option.toList_some, Option.toList_none, List.cons_append, List.nil_append, Nat.lt_add_one, Nat.zero_lt_succ, Nat.le_refl, Nat.add_zero, Nat.zero_add, Nat.one_ne_zero, Nat.zero_ne_one, Nat.lt_irrefl, List.length_set, fa_X5_isWord, hi, hd, hQ, mr_X5_isWord, a1, rM_0, rM_1, rM_2, rM_3, rM_4, ru_0, ru_1, ru_2, ru_3, ru_4, rO_len, rg_0, rg_1, rg_2, rg_3, rg_4, rg_5, rg_6, rg_7, rg_8, rg_9, rg_10, rs_0, rs_1, rs_5, rs_6, rs_8, rs_9, rs_10]
      refine ⟨by omega, _, t_length hG (by omega) a1 a2 (by omega), ?_⟩
      rintro v n' z' f' ⟨rfl, rfl, rfl, rfl⟩
      refine wp_sound (by rw [hi]; exact ok_X5_isWord) (hd := [7, 15, 21, 36]) 400 _ _ _ _ _ _ ?_
      simp only [wp, stp, List.mem_cons, List.not_mem_nil, Nat.reduceEqDiff, or_false, or_self, false_or, or_true, true_or, Nat.reduceAdd, ↓reduceIte, List.getElem?_cons_zero, List.getElem?_cons_succ, nthV, List.set_cons_zero, List.set_cons_succ, noL, popA, catS, Value.category, List.length_cons, List.length_nil, Nat.reduceLT, Nat.reduceLeDiff, true_and, and_true, one0, zer1, imp_t, imp_f, ofN_nI, sdead, f20, f21, not_true_eq_false, upC_ap, upC_upC, retC, fitC, isRefT, Option.toList_some, Option.toList_none, List.cons_append, List.nil_append, Nat.lt_add_one, Nat.zero_lt_succ, Nat.le_refl, Nat.add_zero, Nat.zero_add, Nat.one_ne_zero, Nat.zero_ne_one, Nat.lt_irrefl, List.length_set, fa_X5_isWord, hi, hd, hQ, mr_X5_isWord, rM_0, rM_1, rM_2, rM_3, rM_4, ru_0, ru_1, ru_2, ru_3, ru_4, rO_len, rg_0, rg_1, rg_2, rg_3, rg_4, rg_5, rg_6, rg_7, rg_8, rg_9, rg_10, rs_0, rs_1, rs_5, rs_6, rs_8, rs_9, rs_10]
      try simp only [m1f]
      try simp (disch := omega) only [nmod, nI_leI, nI_ltI, nI_eq, nI_clamp, vin_nI, nI_1, fa_lit, nI_add, nI_rm3, nI_rm2, pk_rem, pk_mul, pk_sub, pk_div, nI_eM, nI_Me, nI_pM, nI_pMz, nI_pM0, M1_lt, M1_le, nI_ltM, nI_leM, i8_nI, true_and, and_true, false_implies, true_implies, not_false_eq_true, not_true_eq_false, ne_eq, implies_true, Nat.not_lt_zero, Nat.zero_le, ite_min, max0, Nat.reduceLT, Nat.reduceLeDiff, Nat.reduceEqDiff, Nat.reduceAdd, Nat.reduceMul]
      try simp only [m1u]
      exact ⟨fun _ => Same.i (bI_t ⟨hl, fun x hx' => hx x (by omega)⟩).symm, fun h => absurd h (by omega)⟩
    | succ m ih =>
      intro k hk hl hx
      refine wp_sound (by rw [hi]; exact ok_X5_isWord) (hd := [7, 15, 21, 36]) 400 _ _ _ _ _ _ ?_
      simp only [wp, stp, List.mem_cons, List.not_mem_nil, Nat.reduceEqDiff, or_false, or_self, false_or, or_true, true_or, Nat.reduceAdd, ↓reduceIte, List.getElem?_cons_zero, List.getElem?_cons_succ, nthV, List.set_cons_zero, List.set_cons_succ, noL, popA, catS, Value.category, List.length_cons, List.length_nil, Nat.reduceLT, Nat.reduceLeDiff, true_and, and_true, one0, zer1, imp_t, imp_f, ofN_nI, sdead, f20, f21, not_true_eq_false, upC_ap, upC_upC, retC, fitC, isRefT, Option.toList_some, Option.toList_none, List.cons_append, List.nil_append, Nat.lt_add_one, Nat.zero_lt_succ, Nat.le_refl, Nat.add_zero, Nat.zero_add, Nat.one_ne_zero, Nat.zero_ne_one, Nat.lt_irrefl, List.length_set, fa_X5_isWord, hi, hd, hQ, mr_X5_isWord, a1, rM_0, rM_1, rM_2, rM_3, rM_4, ru_0, ru_1, ru_2, ru_3, ru_4, rO_len, rg_0, rg_1, rg_2, rg_3, rg_4, rg_5, rg_6, rg_7, rg_8, rg_9, rg_10, rs_0, rs_1, rs_5, rs_6, rs_8, rs_9, rs_10]
      refine ⟨by omega, _, t_length hG (by omega) a1 a2 (by omega), ?_⟩
      rintro v n' z' f' ⟨rfl, rfl, rfl, rfl⟩
      have b1 := t3 (i + k) (by omega)
      have b2 := isLt_128 (hL (i + k) (by omega) (by omega))
      have b3 : tg (i + k) = nI (tb (i + k)) := by rw [b1.2, byte_lo b2]
      refine wp_sound (by rw [hi]; exact ok_X5_isWord) (hd := [7, 15, 21, 36]) 400 _ _ _ _ _ _ ?_
      simp only [wp, stp, List.mem_cons, List.not_mem_nil, Nat.reduceEqDiff, or_false, or_self, false_or, or_true, true_or, Nat.reduceAdd, ↓reduceIte, List.getElem?_cons_zero, List.getElem?_cons_succ, nthV, List.set_cons_zero, List.set_cons_succ, noL, popA, catS, Value.category, List.length_cons, List.length_nil, Nat.reduceLT, Nat.reduceLeDiff, true_and, and_true, one0, zer1, imp_t, imp_f, ofN_nI, sdead, f20, f21, not_true_eq_false, upC_ap, upC_upC, retC, fitC, isRefT, Option.toList_some, Option.toList_none, List.cons_append, List.nil_append, Nat.lt_add_one, Nat.zero_lt_succ, Nat.le_refl, Nat.add_zero, Nat.zero_add, Nat.one_ne_zero, Nat.zero_ne_one, Nat.lt_irrefl, List.length_set, fa_X5_isWord, hi, hd, hQ, mr_X5_isWord, a1, t1, rM_0, rM_1, rM_2, rM_3, rM_4, ru_0, ru_1, ru_2, ru_3, ru_4, rO_len, rg_0, rg_1, rg_2, rg_3, rg_4, rg_5, rg_6, rg_7, rg_8, rg_9, rg_10, rs_0, rs_1, rs_5, rs_6, rs_8, rs_9, rs_10]
      try simp only [m1f]
      try simp (disch := omega) only [nmod, nI_leI, nI_ltI, nI_eq, nI_clamp, vin_nI, nI_1, fa_lit, nI_add, nI_rm3, nI_rm2, pk_rem, pk_mul, pk_sub, pk_div, nI_eM, nI_Me, nI_pM, nI_pMz, nI_pM0, M1_lt, M1_le, nI_ltM, nI_leM, i8_nI, true_and, and_true, false_implies, true_implies, not_false_eq_true, not_true_eq_false, ne_eq, implies_true, Nat.not_lt_zero, Nat.zero_le, ite_min, max0, Nat.reduceLT, Nat.reduceLeDiff, Nat.reduceEqDiff, Nat.reduceAdd, Nat.reduceMul]
      try simp only [m1u]
      refine ⟨fun h => absurd h (by omega), fun _ => ⟨by omega, by omega, _, t_charAt hG (by omega) a1 a2 (by omega) (show k < (wds j).length by omega) (w3' k (by omega)) (a3 k (by omega)), ?_⟩⟩
      rintro v n2 z2 f2 ⟨rfl, rfl, rfl, rfl⟩
      have b4 := w3' k (by omega)
      rw [b3]
      refine wp_sound (by rw [hi]; exact ok_X5_isWord) (hd := [7, 15, 21, 36]) 400 _ _ _ _ _ _ ?_
      simp only [wp, stp, List.mem_cons, List.not_mem_nil, Nat.reduceEqDiff, or_false, or_self, false_or, or_true, true_or, Nat.reduceAdd, ↓reduceIte, List.getElem?_cons_zero, List.getElem?_cons_succ, nthV, List.set_cons_zero, List.set_cons_succ, noL, popA, catS, Value.category, List.length_cons, List.length_nil, Nat.reduceLT, Nat.reduceLeDiff, true_and, and_true, one0, zer1, imp_t, imp_f, ofN_nI, sdead, f20, f21, not_true_eq_false, upC_ap, upC_upC, retC, fitC, isRefT, Option.toList_some, Option.toList_none, List.cons_append, List.nil_append, Nat.lt_add_one, Nat.zero_lt_succ, Nat.le_refl, Nat.add_zero, Nat.zero_add, Nat.one_ne_zero, Nat.zero_ne_one, Nat.lt_irrefl, List.length_set, fa_X5_isWord, hi, hd, hQ, mr_X5_isWord, rM_0, rM_1, rM_2, rM_3, rM_4, ru_0, ru_1, ru_2, ru_3, ru_4, rO_len, rg_0, rg_1, rg_2, rg_3, rg_4, rg_5, rg_6, rg_7, rg_8, rg_9, rg_10, rs_0, rs_1, rs_5, rs_6, rs_8, rs_9, rs_10]
      try simp only [m1f]
      try simp (disch := omega) only [nmod, nI_leI, nI_ltI, nI_eq, nI_clamp, vin_nI, nI_1, fa_lit, nI_add, nI_rm3, nI_rm2, pk_rem, pk_mul, pk_sub, pk_div, nI_eM, nI_Me, nI_pM, nI_pMz, nI_pM0, M1_lt, M1_le, nI_ltM, nI_leM, i8_nI, true_and, and_true, false_implies, true_implies, not_false_eq_true, not_true_eq_false, ne_eq, implies_true, Nat.not_lt_zero, Nat.zero_le, ite_min, max0, Nat.reduceLT, Nat.reduceLeDiff, Nat.reduceEqDiff, Nat.reduceAdd, Nat.reduceMul]
      try simp only [m1u]
      refine ⟨fun h => ih (k + 1) (by omega) hl (fun x hx' => ?_), fun h => Same.i (bI_f (fun q => h (q.2 k (by omega)))).symm⟩
      by_cases q : x = k
      · subst q; exact h
      · exact hx x (by omega)
  refine wp_sound (by rw [hi]; exact ok_X5_isWord) (hd := [7, 15, 21, 36]) 400 _ _ _ _ _ _ ?_
  simp only [wp, stp, List.mem_cons, List.not_mem_nil, Nat.reduceEqDiff, or_false, or_self, false_or, or_true, true_or, Nat.reduceAdd, ↓reduceIte, List.getElem?_cons_zero, List.getElem?_cons_succ, nthV, List.set_cons_zero, List.set_cons_succ, noL, popA, catS, Value.category, List.length_cons, List.length_nil, Nat.reduceLT, Nat.reduceLeDiff, true_and, and_true, one0, zer1, imp_t, imp_f, ofN_nI, sdead, f20, f21, not_true_eq_false, upC_ap, upC_upC, retC, fitC, isRefT, Option.toList_some, Option.toList_none, List.cons_append, List.nil_append, Nat.lt_add_one, Nat.zero_lt_succ, Nat.le_refl, Nat.add_zero, Nat.zero_add, Nat.one_ne_zero, Nat.zero_ne_one, Nat.lt_irrefl, List.length_set, fa_X5_isWord, hi, hd, hQ, mr_X5_isWord, a1, rM_0, rM_1, rM_2, rM_3, rM_4, ru_0, ru_1, ru_2, ru_3, ru_4, rO_len, rg_0, rg_1, rg_2, rg_3, rg_4, rg_5, rg_6, rg_7, rg_8, rg_9, rg_10, rs_0, rs_1, rs_5, rs_6, rs_8, rs_9, rs_10]
  refine ⟨by omega, _, t_length hG (by omega) a1 a2 (by omega), ?_⟩
  rintro v n' z' f' ⟨rfl, rfl, rfl, rfl⟩
  refine wp_sound (by rw [hi]; exact ok_X5_isWord) (hd := [7, 15, 21, 36]) 400 _ _ _ _ _ _ ?_
  simp only [wp, stp, List.mem_cons, List.not_mem_nil, Nat.reduceEqDiff, or_false, or_self, false_or, or_true, true_or, Nat.reduceAdd, ↓reduceIte, List.getElem?_cons_zero, List.getElem?_cons_succ, nthV, List.set_cons_zero, List.set_cons_succ, noL, popA, catS, Value.category, List.length_cons, List.length_nil, Nat.reduceLT, Nat.reduceLeDiff, true_and, and_true, one0, zer1, imp_t, imp_f, ofN_nI, sdead, f20, f21, not_true_eq_false, upC_ap, upC_upC, retC, fitC, isRefT, Option.toList_some, Option.toList_none, List.cons_append, List.nil_append, Nat.lt_add_one, Nat.zero_lt_succ, Nat.le_refl, Nat.add_zero, Nat.zero_add, Nat.one_ne_zero, Nat.zero_ne_one, Nat.lt_irrefl, List.length_set, fa_X5_isWord, hi, hd, hQ, mr_X5_isWord, rM_0, rM_1, rM_2, rM_3, rM_4, ru_0, ru_1, ru_2, ru_3, ru_4, rO_len, rg_0, rg_1, rg_2, rg_3, rg_4, rg_5, rg_6, rg_7, rg_8, rg_9, rg_10, rs_0, rs_1, rs_5, rs_6, rs_8, rs_9, rs_10]
  try simp only [m1f]
  try simp (disch := omega) only [nmod, nI_leI, nI_ltI, nI_eq, nI_clamp, vin_nI, nI_1, fa_lit, nI_add, nI_rm3, nI_rm2, pk_rem, pk_mul, pk_sub, pk_div, nI_eM, nI_Me, nI_pM, nI_pMz, nI_pM0, M1_lt, M1_le, nI_ltM, nI_leM, i8_nI, true_and, and_true, false_implies, true_implies, not_false_eq_true, not_true_eq_false, ne_eq, implies_true, Nat.not_lt_zero, Nat.zero_le, ite_min, max0, Nat.reduceLT, Nat.reduceLeDiff, Nat.reduceEqDiff, Nat.reduceAdd, Nat.reduceMul]
  try simp only [m1u]
  refine ⟨fun h => loop (wds j).length 0 (by omega) h (fun x hx => absurd hx (Nat.not_lt_zero x)), fun h => Same.i (bI_f (fun q => h q.1)).symm⟩
end Str
