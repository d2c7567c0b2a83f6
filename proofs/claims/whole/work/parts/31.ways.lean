-- Arrays.fill, and the class's search for ways
set_option maxRecDepth 100000
set_option maxHeartbeats 4000000
section Fill
variable {G : Gam} {d n z : Nat} {f : Mf}
theorem t_fillB (hG : Ok G) {r N : Nat} {g : Nat → Int32} (hr : r < 1000000) (hf : f r = cB N g) (hN : N < 100000) (v : Int32) : Tr G d 8 [.ref r, .int v] n z f (fun w n' z' f' => w = none ∧ n' = n ∧ z' = z ∧ ∃ h, f' = upC f r (cB N h) ∧ ∀ j, j < N → h j = v.toInt8.toInt32) := by
  refine Tr.of2 (ls0 := [.ref r, .int v, dead, dead]) hG mo_J7_fill_031fb (Nat.le_of_ble_eq_true rfl) rfl ?_
  intro X hi hd hXn hXz hXf hQ
  have loop : ∀ k i h, i + k = N → (∀ j, j < i → h j = v.toInt8.toInt32) → V G X 5 [.ref r, .int v, .int (nI i), .int (nI N)] [] n z (upC f r (cB N h)) := by
    intro k
    induction k with
    | zero =>
      intro i h hk he
      refine wp_sound (by rw [hi]; exact ok_J7_fill_031fb) (hd := [5]) 400 _ _ _ _ _ _ ?_
      simp only [wp, stp, List.mem_cons, List.not_mem_nil, Nat.reduceEqDiff, or_false, or_self, false_or, or_true, true_or, Nat.reduceAdd, ↓reduceIte, List.getElem?_cons_zero, List.getElem?_cons_succ, nthV, List.set_cons_zero, List.set_cons_succ, noL, popA, catS, Value.category, List.length_cons, List.length_nil, Nat.reduceLT, Nat.reduceLeDiff, true_and, and_true, one0, zer1, imp_t, imp_f, ofN_nI, sdead, f20, f21, not_true_eq_false, upC_ap, retC, fitC, isRefT, Option.toList_some, Option.toList_none, List.cons_append, List.nil_append, Nat.lt_add_one, Nat.zero_lt_succ, Nat.le_refl, Nat.add_zero, Nat.zero_add, Nat.one_ne_zero, Nat.zero_ne_one, Nat.lt_irrefl, List.length_set, fa_J7_fill_031fb, hi, hd, hQ, mr_J7_fill_031fb]
      try simp only [m1f]
      try simp (disch := omega) only [nI_leI, nI_ltI, nI_eq, nI_clamp, vin_nI, nI_1, fa_lit, nI_add, nI_rm3, nI_rm2, pk_rem, pk_mul, pk_sub, pk_div, nI_eM, nI_Me, nI_pM, nI_pMz, nI_pM0, M1_lt, M1_le, nI_ltM, nI_leM, i8_nI, true_and, and_true, false_implies, true_implies, not_false_eq_true, not_true_eq_false, ne_eq, implies_true, Nat.not_lt_zero, Nat.zero_le]
      try simp only [m1u]
      have : i = N := by omega
      subst this
      exact ⟨fun _ => ⟨h, rfl, he⟩, fun q => absurd (Nat.le_refl _) q⟩
    | succ k ih =>
      intro i h hk he
      refine wp_sound (by rw [hi]; exact ok_J7_fill_031fb) (hd := [5]) 400 _ _ _ _ _ _ ?_
      simp only [wp, stp, List.mem_cons, List.not_mem_nil, Nat.reduceEqDiff, or_false, or_self, false_or, or_true, true_or, Nat.reduceAdd, ↓reduceIte, List.getElem?_cons_zero, List.getElem?_cons_succ, nthV, List.set_cons_zero, List.set_cons_succ, noL, popA, catS, Value.category, List.length_cons, List.length_nil, Nat.reduceLT, Nat.reduceLeDiff, true_and, and_true, one0, zer1, imp_t, imp_f, ofN_nI, sdead, f20, f21, not_true_eq_false, upC_ap, retC, fitC, isRefT, Option.toList_some, Option.toList_none, List.cons_append, List.nil_append, Nat.lt_add_one, Nat.zero_lt_succ, Nat.le_refl, Nat.add_zero, Nat.zero_add, Nat.one_ne_zero, Nat.zero_ne_one, Nat.lt_irrefl, List.length_set, fa_J7_fill_031fb, hi, hd, hQ, mr_J7_fill_031fb, hr]
      try simp only [m1f]
      try simp (disch := omega) only [nI_leI, nI_ltI, nI_eq, nI_clamp, vin_nI, nI_1, fa_lit, nI_add, nI_rm3, nI_rm2, pk_rem, pk_mul, pk_sub, pk_div, nI_eM, nI_Me, nI_pM, nI_pMz, nI_pM0, M1_lt, M1_le, nI_ltM, nI_leM, i8_nI, true_and, and_true, false_implies, true_implies, not_false_eq_true, not_true_eq_false, ne_eq, implies_true, Nat.not_lt_zero, Nat.zero_le]
      try simp only [m1u]
      refine ⟨fun q => absurd q (by omega), fun _ => ⟨by omega, ?_⟩⟩
      rw [upC_upC]
      refine ih (i + 1) _ (by omega) (fun j hj => ?_)
      by_cases e : j = i
      · subst e; simp [upd]
      · rw [upd, if_neg e]; exact he j (by omega)
  refine wp_sound (by rw [hi]; exact ok_J7_fill_031fb) (hd := [5]) 400 _ _ _ _ _ _ ?_
  simp only [wp, stp, List.mem_cons, List.not_mem_nil, Nat.reduceEqDiff, or_false, or_self, false_or, or_true, true_or, Nat.reduceAdd, ↓reduceIte, List.getElem?_cons_zero, List.getElem?_cons_succ, nthV, List.set_cons_zero, List.set_cons_succ, noL, popA, catS, Value.category, List.length_cons, List.length_nil, Nat.reduceLT, Nat.reduceLeDiff, true_and, and_true, one0, zer1, imp_t, imp_f, ofN_nI, sdead, f20, f21, not_true_eq_false, upC_ap, retC, fitC, isRefT, Option.toList_some, Option.toList_none, List.cons_append, List.nil_append, Nat.lt_add_one, Nat.zero_lt_succ, Nat.le_refl, Nat.add_zero, Nat.zero_add, Nat.one_ne_zero, Nat.zero_ne_one, Nat.lt_irrefl, List.length_set, fa_J7_fill_031fb, hi, hd, hQ, mr_J7_fill_031fb, hf]
  try simp only [m1f]
  try simp (disch := omega) only [nI_leI, nI_ltI, nI_eq, nI_clamp, vin_nI, nI_1, fa_lit, nI_add, nI_rm3, nI_rm2, pk_rem, pk_mul, pk_sub, pk_div, nI_eM, nI_Me, nI_pM, nI_pMz, nI_pM0, M1_lt, M1_le, nI_ltM, nI_leM, i8_nI, true_and, and_true, false_implies, true_implies, not_false_eq_true, not_true_eq_false, ne_eq, implies_true, Nat.not_lt_zero, Nat.zero_le]
  try simp only [m1u]
  have h0 := loop N 0 g (by omega) (fun j hj => absurd hj (Nat.not_lt_zero j))
  rw [upC_id f hf] at h0
  exact h0
theorem t_fillI (hG : Ok G) {r N : Nat} {g : Nat → Int32} (hr : r < 1000000) (hf : f r = cI N g) (hN : N < 100000) (v : Int32) : Tr G d 9 [.ref r, .int v] n z f (fun w n' z' f' => w = none ∧ n' = n ∧ z' = z ∧ ∃ h, f' = upC f r (cI N h) ∧ ∀ j, j < N → h j = v) := by
  refine Tr.of2 (ls0 := [.ref r, .int v, dead, dead]) hG mo_J7_fill_53178 (Nat.le_of_ble_eq_true rfl) rfl ?_
  intro X hi hd hXn hXz hXf hQ
  have loop : ∀ k i h, i + k = N → (∀ j, j < i → h j = v) → V G X 5 [.ref r, .int v, .int (nI i), .int (nI N)] [] n z (upC f r (cI N h)) := by
    intro k
    induction k with
    | zero =>
      intro i h hk he
      refine wp_sound (by rw [hi]; exact ok_J7_fill_53178) (hd := [5]) 400 _ _ _ _ _ _ ?_
      simp only [wp, stp, List.mem_cons, List.not_mem_nil, Nat.reduceEqDiff, or_false, or_self, false_or, or_true, true_or, Nat.reduceAdd, ↓reduceIte, List.getElem?_cons_zero, List.getElem?_cons_succ, nthV, List.set_cons_zero, List.set_cons_succ, noL, popA, catS, Value.category, List.length_cons, List.length_nil, Nat.reduceLT, Nat.reduceLeDiff, true_and, and_true, one0, zer1, imp_t, imp_f, ofN_nI, sdead, f20, f21, not_true_eq_false, upC_ap, retC, fitC, isRefT, Option.toList_some, Option.toList_none, List.cons_append, List.nil_append, Nat.lt_add_one, Nat.zero_lt_succ, Nat.le_refl, Nat.add_zero, Nat.zero_add, Nat.one_ne_zero, Nat.zero_ne_one, Nat.lt_irrefl, List.length_set, fa_J7_fill_53178, hi, hd, hQ, mr_J7_fill_53178]
      try simp only [m1f]
      try simp (disch := omega) only [nI_leI, nI_ltI, nI_eq, nI_clamp, vin_nI, nI_1, fa_lit, nI_add, nI_rm3, nI_rm2, pk_rem, pk_mul, pk_sub, pk_div, nI_eM, nI_Me, nI_pM, nI_pMz, nI_pM0, M1_lt, M1_le, nI_ltM, nI_leM, i8_nI, true_and, and_true, false_implies, true_implies, not_false_eq_true, not_true_eq_false, ne_eq, implies_true, Nat.not_lt_zero, Nat.zero_le]
      try simp only [m1u]
      have : i = N := by omega
      subst this
      exact ⟨fun _ => ⟨h, rfl, he⟩, fun q => absurd (Nat.le_refl _) q⟩
    | succ k ih =>
      intro i h hk he
      refine wp_sound (by rw [hi]; exact ok_J7_fill_53178) (hd := [5]) 400 _ _ _ _ _ _ ?_
      simp only [wp, stp, List.mem_cons, List.not_mem_nil, Nat.reduceEqDiff, or_false, or_self, false_or, or_true, true_or, Nat.reduceAdd, ↓reduceIte, List.getElem?_cons_zero, List.getElem?_cons_succ, nthV, List.set_cons_zero, List.set_cons_succ, noL, popA, catS, Value.category, List.length_cons, List.length_nil, Nat.reduceLT, Nat.reduceLeDiff, true_and, and_true, one0, zer1, imp_t, imp_f, ofN_nI, sdead, f20, f21, not_true_eq_false, upC_ap, retC, fitC, isRefT, Option.toList_some, Option.toList_none, List.cons_append, List.nil_append, Nat.lt_add_one, Nat.zero_lt_succ, Nat.le_refl, Nat.add_zero, Nat.zero_add, Nat.one_ne_zero, Nat.zero_ne_one, Nat.lt_irrefl, List.length_set, fa_J7_fill_53178, hi, hd, hQ, mr_J7_fill_53178, hr]
      try simp only [m1f]
      try simp (disch := omega) only [nI_leI, nI_ltI, nI_eq, nI_clamp, vin_nI, nI_1, fa_lit, nI_add, nI_rm3, nI_rm2, pk_rem, pk_mul, pk_sub, pk_div, nI_eM, nI_Me, nI_pM, nI_pMz, nI_pM0, M1_lt, M1_le, nI_ltM, nI_leM, i8_nI, true_and, and_true, false_implies, true_implies, not_false_eq_true, not_true_eq_false, ne_eq, implies_true, Nat.not_lt_zero, Nat.zero_le]
      try simp only [m1u]
      refine ⟨fun q => absurd q (by omega), fun _ => ⟨by omega, ?_⟩⟩
      rw [upC_upC]
      refine ih (i + 1) _ (by omega) (fun j hj => ?_)
      by_cases e : j = i
      · subst e; simp [upd]
      · rw [upd, if_neg e]; exact he j (by omega)
  refine wp_sound (by rw [hi]; exact ok_J7_fill_53178) (hd := [5]) 400 _ _ _ _ _ _ ?_
  simp only [wp, stp, List.mem_cons, List.not_mem_nil, Nat.reduceEqDiff, or_false, or_self, false_or, or_true, true_or, Nat.reduceAdd, ↓reduceIte, List.getElem?_cons_zero, List.getElem?_cons_succ, nthV, List.set_cons_zero, List.set_cons_succ, noL, popA, catS, Value.category, List.length_cons, List.length_nil, Nat.reduceLT, Nat.reduceLeDiff, true_and, and_true, one0, zer1, imp_t, imp_f, ofN_nI, sdead, f20, f21, not_true_eq_false, upC_ap, retC, fitC, isRefT, Option.toList_some, Option.toList_none, List.cons_append, List.nil_append, Nat.lt_add_one, Nat.zero_lt_succ, Nat.le_refl, Nat.add_zero, Nat.zero_add, Nat.one_ne_zero, Nat.zero_ne_one, Nat.lt_irrefl, List.length_set, fa_J7_fill_53178, hi, hd, hQ, mr_J7_fill_53178, hf]
  try simp only [m1f]
  try simp (disch := omega) only [nI_leI, nI_ltI, nI_eq, nI_clamp, vin_nI, nI_1, fa_lit, nI_add, nI_rm3, nI_rm2, pk_rem, pk_mul, pk_sub, pk_div, nI_eM, nI_Me, nI_pM, nI_pMz, nI_pM0, M1_lt, M1_le, nI_ltM, nI_leM, i8_nI, true_and, and_true, false_implies, true_implies, not_false_eq_true, not_true_eq_false, ne_eq, implies_true, Nat.not_lt_zero, Nat.zero_le]
  try simp only [m1u]
  have h0 := loop N 0 g (by omega) (fun j hj => absurd hj (Nat.not_lt_zero j))
  rw [upC_id f hf] at h0
  exact h0
end Fill
