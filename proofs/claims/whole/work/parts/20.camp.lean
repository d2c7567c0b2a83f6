-- THE STATE of the plain, the tents and the men: S 0 the numbers (in the reference's order), S 1 the yards, S 2 .. S 7 the tents' places, families, modes, coins, moves, told pays, S 8 the men's places
abbrev Sta : Type := Nat → Nat → Int32
def tn (S : Sta) : Nat := (S 0 3).toNatClampNeg
def mn (S : Sta) : Nat := (S 0 4).toNatClampNeg
/-- the class's camp at place 1 -/
def CR (S : Sta) (lp : Nat) (f : Mf) : Prop :=
  f 1 = cO 0 [.int (S 0 0), .int (S 0 1), .int (S 0 2), .ref 2, .int (S 0 3), .ref 3, .ref 4, .ref 5, .ref 6, .ref 7, .ref 8, .int (S 0 4), .ref 9, .int (S 0 5), .int (S 0 6), .int (S 0 7), .int (S 0 8), .int (S 0 9), .ref lp] ∧
  ∃ kd ya fa mo co mv tp my : Nat → Int32, f 2 = cI 100 kd ∧ (∀ i, i < 100 → kd i = S 1 i) ∧ f 3 = cI 10 ya ∧ (∀ t, t < tn S → ya t = S 2 t) ∧ f 4 = cI 10 fa ∧ (∀ t, t < tn S → fa t = S 3 t) ∧ f 5 = cI 10 mo ∧ (∀ t, t < tn S → mo t = S 4 t) ∧ f 6 = cI 10 co ∧ (∀ t, t < tn S → co t = S 5 t) ∧ f 7 = cI 10 mv ∧ (∀ t, t < tn S → mv t = S 6 t) ∧ f 8 = cI 10 tp ∧ (∀ t, t < tn S → tp t = S 7 t) ∧ f 9 = cI 6 my ∧ (∀ t, t < mn S → my t = S 8 t)
/-- bounds of the numbers -/
def Bd (S : Sta) : Prop := (S 0 3 = nI (tn S) ∧ tn S ≤ 10) ∧ (S 0 4 = nI (mn S) ∧ mn S ≤ 6) ∧ ∃ w h : Nat, S 0 0 = nI w ∧ S 0 1 = nI h ∧ 2 ≤ w ∧ w ≤ 10 ∧ 2 ≤ h ∧ h ≤ 10
/-- the first of k places from i on that holds, or -1 -/
def first1 (p : Nat → Prop) [DecidablePred p] : Nat → Nat → Int32
  | 0, _ => -1
  | k + 1, i => if p i then nI i else first1 p k (i + 1)
def tentAtS (S : Sta) (c : Int32) : Int32 := first1 (fun t => S 2 t = c) (tn S) 0
def manAtS (S : Sta) (c : Int32) : Int32 := first1 (fun t => S 8 t = c) (mn S) 0
abbrev inS (S : Sta) (c : Int32) : Prop := (¬ c < 0 ∧ ¬ 100 ≤ c) ∧ ¬ S 0 0 ≤ c - c / 10 * 10 ∧ ¬ S 0 1 ≤ c / 10
abbrev grS (S : Sta) (c : Int32) : Prop := inS S c ∧ S 1 c.toNatClampNeg = 0
theorem inS_100 {S : Sta} {c : Int32} (h : inS S c) : vp_in c 100 ∧ c.toNatClampNeg < 100 := by
  have h1 : ∃ j : Nat, j ≤ 99 ∧ c = nI j := nI_of2 (M := 99) (n := 99) rfl h.1.1 (by
    have h2 := h.1.2
    have : (99 : Int32).toInt = 99 := rfl
    have : (100 : Int32).toInt = 100 := rfl
    rw [Int32.le_iff_toInt_le] at h2 ⊢
    omega)
  obtain ⟨j, hj, rfl⟩ := h1
  rw [nI_clamp (by omega), vin_nI (by omega)]
  omega
set_option maxRecDepth 100000
set_option maxHeartbeats 4000000
theorem t_tentAt {G : Gam} (hG : Ok G) {d n z lp : Nat} {f : Mf} {S : Sta} (hC : CR S lp f) (hB : Bd S) (c : Int32) : Tr G d 18 [.ref 1, .int c] n z f (Same (.int (tentAtS S c)) n z f) := by
  obtain ⟨h1, kd, ya, fa, mo, co, mv, tp, my, h2, h2', h3, h3', -⟩ := hC
  obtain ⟨⟨b1, b2⟩, -⟩ := hB
  refine Tr.of2 (ls0 := [.ref 1, .int c, dead]) hG mo_X0_tentAt (Nat.le_of_ble_eq_true rfl) rfl ?_
  intro X hi hd hXn hXz hXf hQ
  have loop : ∀ k i, i + k = tn S → tentAtS S c = first1 (fun t => S 2 t = c) k i → V G X 2 [.ref 1, .int c, .int (nI i)] [] n z f := by
    intro k
    induction k with
    | zero =>
      intro i hk he
      refine wp_sound (by rw [hi]; exact ok_X0_tentAt) (hd := [2]) 400 _ _ _ _ _ _ ?_
      simp only [wp, stp, List.mem_cons, List.not_mem_nil, Nat.reduceEqDiff, or_false, or_self, false_or, or_true, true_or, Nat.reduceAdd, ↓reduceIte, List.getElem?_cons_zero, List.getElem?_cons_succ, nthV, List.set_cons_zero, List.set_cons_succ, noL, popA, catS, Value.category, List.length_cons, List.length_nil, Nat.reduceLT, Nat.reduceLeDiff, true_and, and_true, one0, zer1, imp_t, imp_f, ofN_nI, sdead, f20, f21, not_true_eq_false, upC_ap, retC, fitC, isRefT, Option.toList_some, Option.toList_none, List.cons_append, List.nil_append, Nat.lt_add_one, Nat.zero_lt_succ, Nat.le_refl, Nat.add_zero, Nat.zero_add, Nat.one_ne_zero, Nat.zero_ne_one, Nat.lt_irrefl, List.length_set, fa_X0_tentAt, hi, hd, hQ, mr_X0_tentAt, h1, h3, b1]
      try simp only [m1f]
      try simp (disch := omega) only [nI_leI, nI_ltI, nI_eq, nI_clamp, vin_nI, nI_1, fa_lit, nI_add, nI_rm3, nI_rm2, pk_rem, pk_mul, pk_sub, pk_div, nI_eM, nI_Me, nI_pM, nI_pMz, nI_pM0, M1_lt, M1_le, nI_ltM, nI_leM, i8_nI, true_and, and_true, false_implies, true_implies, not_false_eq_true, not_true_eq_false, ne_eq, implies_true, Nat.not_lt_zero, Nat.zero_le]
      try simp only [m1u]
      exact ⟨fun _ => Same.i he.symm, fun h => absurd (by omega) h⟩
    | succ k ih =>
      intro i hk he
      refine wp_sound (by rw [hi]; exact ok_X0_tentAt) (hd := [2]) 400 _ _ _ _ _ _ ?_
      simp only [wp, stp, List.mem_cons, List.not_mem_nil, Nat.reduceEqDiff, or_false, or_self, false_or, or_true, true_or, Nat.reduceAdd, ↓reduceIte, List.getElem?_cons_zero, List.getElem?_cons_succ, nthV, List.set_cons_zero, List.set_cons_succ, noL, popA, catS, Value.category, List.length_cons, List.length_nil, Nat.reduceLT, Nat.reduceLeDiff, true_and, and_true, one0, zer1, imp_t, imp_f, ofN_nI, sdead, f20, f21, not_true_eq_false, upC_ap, retC, fitC, isRefT, Option.toList_some, Option.toList_none, List.cons_append, List.nil_append, Nat.lt_add_one, Nat.zero_lt_succ, Nat.le_refl, Nat.add_zero, Nat.zero_add, Nat.one_ne_zero, Nat.zero_ne_one, Nat.lt_irrefl, List.length_set, fa_X0_tentAt, hi, hd, hQ, mr_X0_tentAt, h1, h3, b1]
      try simp only [m1f]
      try simp (disch := omega) only [nI_leI, nI_ltI, nI_eq, nI_clamp, vin_nI, nI_1, fa_lit, nI_add, nI_rm3, nI_rm2, pk_rem, pk_mul, pk_sub, pk_div, nI_eM, nI_Me, nI_pM, nI_pMz, nI_pM0, M1_lt, M1_le, nI_ltM, nI_leM, i8_nI, true_and, and_true, false_implies, true_implies, not_false_eq_true, not_true_eq_false, ne_eq, implies_true, Nat.not_lt_zero, Nat.zero_le]
      try simp only [m1u]
      rw [h3' i (by omega)]
      rw [first1] at he
      refine ⟨fun h => absurd h (by omega), fun _ => ⟨by omega, fun h => ih _ (by omega) (by rw [he, if_neg h]), fun h => Same.i (by rw [he, if_pos h])⟩⟩
  refine wp_sound (by rw [hi]; exact ok_X0_tentAt) (hd := [2]) 400 _ _ _ _ _ _ ?_
  simp only [wp, stp, List.mem_cons, List.not_mem_nil, Nat.reduceEqDiff, or_false, or_self, false_or, or_true, true_or, Nat.reduceAdd, ↓reduceIte, List.getElem?_cons_zero, List.getElem?_cons_succ, nthV, List.set_cons_zero, List.set_cons_succ, noL, popA, catS, Value.category, List.length_cons, List.length_nil, Nat.reduceLT, Nat.reduceLeDiff, true_and, and_true, one0, zer1, imp_t, imp_f, ofN_nI, sdead, f20, f21, not_true_eq_false, upC_ap, retC, fitC, isRefT, Option.toList_some, Option.toList_none, List.cons_append, List.nil_append, Nat.lt_add_one, Nat.zero_lt_succ, Nat.le_refl, Nat.add_zero, Nat.zero_add, Nat.one_ne_zero, Nat.zero_ne_one, Nat.lt_irrefl, List.length_set, fa_X0_tentAt, hi, hd, hQ, mr_X0_tentAt, h1, h3, b1]
  try simp only [m1f]
  try simp (disch := omega) only [nI_leI, nI_ltI, nI_eq, nI_clamp, vin_nI, nI_1, fa_lit, nI_add, nI_rm3, nI_rm2, pk_rem, pk_mul, pk_sub, pk_div, nI_eM, nI_Me, nI_pM, nI_pMz, nI_pM0, M1_lt, M1_le, nI_ltM, nI_leM, i8_nI, true_and, and_true, false_implies, true_implies, not_false_eq_true, not_true_eq_false, ne_eq, implies_true, Nat.not_lt_zero, Nat.zero_le]
  try simp only [m1u]
  exact loop (tn S) 0 (by omega) rfl
theorem t_manAt {G : Gam} (hG : Ok G) {d n z lp : Nat} {f : Mf} {S : Sta} (hC : CR S lp f) (hB : Bd S) (c : Int32) : Tr G d 19 [.ref 1, .int c] n z f (Same (.int (manAtS S c)) n z f) := by
  obtain ⟨h1, kd, ya, fa, mo, co, mv, tp, my, -, -, -, -, -, -, -, -, -, -, -, -, -, -, h9, h9'⟩ := hC
  obtain ⟨-, ⟨b1, b2⟩, -⟩ := hB
  refine Tr.of2 (ls0 := [.ref 1, .int c, dead]) hG mo_X0_manAt (Nat.le_of_ble_eq_true rfl) rfl ?_
  intro X hi hd hXn hXz hXf hQ
  have loop : ∀ k i, i + k = mn S → manAtS S c = first1 (fun t => S 8 t = c) k i → V G X 2 [.ref 1, .int c, .int (nI i)] [] n z f := by
    intro k
    induction k with
    | zero =>
      intro i hk he
      refine wp_sound (by rw [hi]; exact ok_X0_manAt) (hd := [2]) 400 _ _ _ _ _ _ ?_
      simp only [wp, stp, List.mem_cons, List.not_mem_nil, Nat.reduceEqDiff, or_false, or_self, false_or, or_true, true_or, Nat.reduceAdd, ↓reduceIte, List.getElem?_cons_zero, List.getElem?_cons_succ, nthV, List.set_cons_zero, List.set_cons_succ, noL, popA, catS, Value.category, List.length_cons, List.length_nil, Nat.reduceLT, Nat.reduceLeDiff, true_and, and_true, one0, zer1, imp_t, imp_f, ofN_nI, sdead, f20, f21, not_true_eq_false, upC_ap, retC, fitC, isRefT, Option.toList_some, Option.toList_none, List.cons_append, List.nil_append, Nat.lt_add_one, Nat.zero_lt_succ, Nat.le_refl, Nat.add_zero, Nat.zero_add, Nat.one_ne_zero, Nat.zero_ne_one, Nat.lt_irrefl, List.length_set, fa_X0_manAt, hi, hd, hQ, mr_X0_manAt, h1, h9, b1]
      try simp only [m1f]
      try simp (disch := omega) only [nI_leI, nI_ltI, nI_eq, nI_clamp, vin_nI, nI_1, fa_lit, nI_add, nI_rm3, nI_rm2, pk_rem, pk_mul, pk_sub, pk_div, nI_eM, nI_Me, nI_pM, nI_pMz, nI_pM0, M1_lt, M1_le, nI_ltM, nI_leM, i8_nI, true_and, and_true, false_implies, true_implies, not_false_eq_true, not_true_eq_false, ne_eq, implies_true, Nat.not_lt_zero, Nat.zero_le]
      try simp only [m1u]
      exact ⟨fun _ => Same.i he.symm, fun h => absurd (by omega) h⟩
    | succ k ih =>
      intro i hk he
      refine wp_sound (by rw [hi]; exact ok_X0_manAt) (hd := [2]) 400 _ _ _ _ _ _ ?_
      simp only [wp, stp, List.mem_cons, List.not_mem_nil, Nat.reduceEqDiff, or_false, or_self, false_or, or_true, true_or, Nat.reduceAdd, ↓reduceIte, List.getElem?_cons_zero, List.getElem?_cons_succ, nthV, List.set_cons_zero, List.set_cons_succ, noL, popA, catS, Value.category, List.length_cons, List.length_nil, Nat.reduceLT, Nat.reduceLeDiff, true_and, and_true, one0, zer1, imp_t, imp_f, ofN_nI, sdead, f20, f21, not_true_eq_false, upC_ap, retC, fitC, isRefT, Option.toList_some, Option.toList_none, List.cons_append, List.nil_append, Nat.lt_add_one, Nat.zero_lt_succ, Nat.le_refl, Nat.add_zero, Nat.zero_add, Nat.one_ne_zero, Nat.zero_ne_one, Nat.lt_irrefl, List.length_set, fa_X0_manAt, hi, hd, hQ, mr_X0_manAt, h1, h9, b1]
      try simp only [m1f]
      try simp (disch := omega) only [nI_leI, nI_ltI, nI_eq, nI_clamp, vin_nI, nI_1, fa_lit, nI_add, nI_rm3, nI_rm2, pk_rem, pk_mul, pk_sub, pk_div, nI_eM, nI_Me, nI_pM, nI_pMz, nI_pM0, M1_lt, M1_le, nI_ltM, nI_leM, i8_nI, true_and, and_true, false_implies, true_implies, not_false_eq_true, not_true_eq_false, ne_eq, implies_true, Nat.not_lt_zero, Nat.zero_le]
      try simp only [m1u]
      rw [h9' i (by omega)]
      rw [first1] at he
      refine ⟨fun h => absurd h (by omega), fun _ => ⟨by omega, fun h => ih _ (by omega) (by rw [he, if_neg h]), fun h => Same.i (by rw [he, if_pos h])⟩⟩
  refine wp_sound (by rw [hi]; exact ok_X0_manAt) (hd := [2]) 400 _ _ _ _ _ _ ?_
  simp only [wp, stp, List.mem_cons, List.not_mem_nil, Nat.reduceEqDiff, or_false, or_self, false_or, or_true, true_or, Nat.reduceAdd, ↓reduceIte, List.getElem?_cons_zero, List.getElem?_cons_succ, nthV, List.set_cons_zero, List.set_cons_succ, noL, popA, catS, Value.category, List.length_cons, List.length_nil, Nat.reduceLT, Nat.reduceLeDiff, true_and, and_true, one0, zer1, imp_t, imp_f, ofN_nI, sdead, f20, f21, not_true_eq_false, upC_ap, retC, fitC, isRefT, Option.toList_some, Option.toList_none, List.cons_append, List.nil_append, Nat.lt_add_one, Nat.zero_lt_succ, Nat.le_refl, Nat.add_zero, Nat.zero_add, Nat.one_ne_zero, Nat.zero_ne_one, Nat.lt_irrefl, List.length_set, fa_X0_manAt, hi, hd, hQ, mr_X0_manAt, h1, h9, b1]
  try simp only [m1f]
  try simp (disch := omega) only [nI_leI, nI_ltI, nI_eq, nI_clamp, vin_nI, nI_1, fa_lit, nI_add, nI_rm3, nI_rm2, pk_rem, pk_mul, pk_sub, pk_div, nI_eM, nI_Me, nI_pM, nI_pMz, nI_pM0, M1_lt, M1_le, nI_ltM, nI_leM, i8_nI, true_and, and_true, false_implies, true_implies, not_false_eq_true, not_true_eq_false, ne_eq, implies_true, Nat.not_lt_zero, Nat.zero_le]
  try simp only [m1u]
  exact loop (mn S) 0 (by omega) rfl
theorem t_inside {G : Gam} (hG : Ok G) {d n z lp : Nat} {f : Mf} {S : Sta} (hC : CR S lp f) (c : Int32) : Tr G d 13 [.ref 1, .int c] n z f (Same (.int (bI (inS S c))) n z f) := by
  obtain ⟨h1, -⟩ := hC
  refine Tr.of2 (ls0 := [.ref 1, .int c]) hG mo_X0_inside (Nat.le_of_ble_eq_true rfl) rfl ?_
  intro X hi hd hXn hXz hXf hQ
  refine wp_sound (by rw [hi]; exact ok_X0_inside) (hd := []) 400 _ _ _ _ _ _ ?_
  simp only [wp, stp, List.mem_cons, List.not_mem_nil, Nat.reduceEqDiff, or_false, or_self, false_or, or_true, true_or, Nat.reduceAdd, ↓reduceIte, List.getElem?_cons_zero, List.getElem?_cons_succ, nthV, List.set_cons_zero, List.set_cons_succ, noL, popA, catS, Value.category, List.length_cons, List.length_nil, Nat.reduceLT, Nat.reduceLeDiff, true_and, and_true, one0, zer1, imp_t, imp_f, ofN_nI, sdead, f20, f21, not_true_eq_false, upC_ap, retC, fitC, isRefT, Option.toList_some, Option.toList_none, List.cons_append, List.nil_append, Nat.lt_add_one, Nat.zero_lt_succ, Nat.le_refl, Nat.add_zero, Nat.zero_add, Nat.one_ne_zero, Nat.zero_ne_one, Nat.lt_irrefl, List.length_set, fa_X0_inside, hi, hd, hQ, mr_X0_inside, h1]
  refine ⟨fun h => Same.i (bI_f (fun q => q.1.1 h)).symm, fun ha => ⟨fun h => Same.i (bI_f (fun q => q.1.2 h)).symm, fun hb => ⟨by decide, fun h => Same.i (bI_f (fun q => q.2.1 h)).symm, fun hc => ⟨by decide, fun h => Same.i (bI_f (fun q => q.2.2 h)).symm, fun hd => Same.i (bI_t ⟨⟨ha, hb⟩, hc, hd⟩).symm⟩⟩⟩⟩
theorem t_isGrass {G : Gam} (hG : Ok G) {d n z lp : Nat} {f : Mf} {S : Sta} (hd1 : 1 ≤ d) (hC : CR S lp f) (c : Int32) : Tr G d 14 [.ref 1, .int c] n z f (Same (.int (bI (grS S c))) n z f) := by
  have hC' := hC
  obtain ⟨h1, kd, ya, fa, mo, co, mv, tp, my, h2, h2', -⟩ := hC
  refine Tr.of2 (ls0 := [.ref 1, .int c]) hG mo_X0_isGrass (Nat.le_of_ble_eq_true rfl) rfl ?_
  intro X hi hd hXn hXz hXf hQ
  refine wp_sound (by rw [hi]; exact ok_X0_isGrass) (hd := [5]) 400 _ _ _ _ _ _ ?_
  simp only [wp, stp, List.mem_cons, List.not_mem_nil, Nat.reduceEqDiff, or_false, or_self, false_or, or_true, true_or, Nat.reduceAdd, ↓reduceIte, List.getElem?_cons_zero, List.getElem?_cons_succ, nthV, List.set_cons_zero, List.set_cons_succ, noL, popA, catS, Value.category, List.length_cons, List.length_nil, Nat.reduceLT, Nat.reduceLeDiff, true_and, and_true, one0, zer1, imp_t, imp_f, ofN_nI, sdead, f20, f21, not_true_eq_false, upC_ap, retC, fitC, isRefT, Option.toList_some, Option.toList_none, List.cons_append, List.nil_append, Nat.lt_add_one, Nat.zero_lt_succ, Nat.le_refl, Nat.add_zero, Nat.zero_add, Nat.one_ne_zero, Nat.zero_ne_one, Nat.lt_irrefl, List.length_set, fa_X0_isGrass, hi, hd, hQ, mr_X0_isGrass, h1]
  refine ⟨hd1, _, t_inside hG hC' c, ?_⟩
  rintro v n' z' f' ⟨rfl, rfl, rfl, rfl⟩
  refine wp_sound (by rw [hi]; exact ok_X0_isGrass) (hd := [5]) 400 _ _ _ _ _ _ ?_
  simp only [wp, stp, List.mem_cons, List.not_mem_nil, Nat.reduceEqDiff, or_false, or_self, false_or, or_true, true_or, Nat.reduceAdd, ↓reduceIte, List.getElem?_cons_zero, List.getElem?_cons_succ, nthV, List.set_cons_zero, List.set_cons_succ, noL, popA, catS, Value.category, List.length_cons, List.length_nil, Nat.reduceLT, Nat.reduceLeDiff, true_and, and_true, one0, zer1, imp_t, imp_f, ofN_nI, sdead, f20, f21, not_true_eq_false, upC_ap, retC, fitC, isRefT, Option.toList_some, Option.toList_none, List.cons_append, List.nil_append, Nat.lt_add_one, Nat.zero_lt_succ, Nat.le_refl, Nat.add_zero, Nat.zero_add, Nat.one_ne_zero, Nat.zero_ne_one, Nat.lt_irrefl, List.length_set, fa_X0_isGrass, hi, hd, hQ, mr_X0_isGrass, h1, h2, bI_0]
  refine ⟨fun h => Same.i (bI_f (fun q => h q.1)).symm, fun h => ?_⟩
  have h := Decidable.not_not.mp h
  obtain ⟨q1, q2⟩ := inS_100 h
  rw [h2' _ q2]
  exact ⟨q1, fun h4 => Same.i (bI_f (fun q => h4 q.2)).symm, fun h4 => Same.i (bI_t ⟨h, h4⟩).symm⟩
