-- the class's law: its steps
set_option maxRecDepth 100000
set_option maxHeartbeats 4000000
def judL (tr : Int64) (k : Nat) (l r : Int32) : Int64 := match k with
  | 8 => (tr <<< ((1 : Int32).toInt64 &&& 63)) ||| (bI (l < r)).toInt64
  | 9 => (tr <<< ((1 : Int32).toInt64 &&& 63)) ||| (bI (l = r)).toInt64
  | 10 => (tr <<< ((1 : Int32).toInt64 &&& 63)) ||| (bI (r < l)).toInt64
  | 11 => tr ^^^ Int64.ofNat 1
  | 12 => (tr.toUInt64 >>> ((1 : Int32).toInt64.toUInt64 &&& Int64.toUInt64 63)).toInt64 &&& (tr ||| (-2))
  | 13 => (tr.toUInt64 >>> ((1 : Int32).toInt64.toUInt64 &&& Int64.toUInt64 63)).toInt64 ||| (tr &&& Int64.ofNat 1)
  | _ => tr
def stV (F : Nat → Int32) (v : Nat) : Int32 := if 10000 ≤ v ∧ v < 10008 then F (v - 10000) else nI v
def lawRun (kd vl : Nat → Nat) (F : Nat → Int32) : Nat → Nat → Int32 → Int32 → Int32 → Int32 → Int64 → Int32
  | 0, _, _, _, _, _, _ => 0
  | n + 1, i, pr, su, le, pa, tr => match kd i with
    | 0 => lawRun kd vl F n (i + 1) (stV F (vl i)) su le pa tr
    | 1 => lawRun kd vl F n (i + 1) (pr * stV F (vl i)) su le pa tr
    | 2 => lawRun kd vl F n (i + 1) (if stV F (vl i) = 0 then 0 else pr / stV F (vl i)) su le pa tr
    | 3 => lawRun kd vl F n (i + 1) pr pr le pa tr
    | 4 => lawRun kd vl F n (i + 1) pr (su + pr) le pa tr
    | 5 => lawRun kd vl F n (i + 1) pr (su - pr) le pa tr
    | 6 => lawRun kd vl F n (i + 1) pr su le su tr
    | 7 => lawRun kd vl F n (i + 1) pr su su pa tr
    | 14 => if lg_cmp (tr &&& Int64.ofNat 1) (Int64.ofNat 0) = 0 then lawRun kd vl F n (i + 1) pr su le pa (Int64.ofNat 0) else pa
    | 15 => pa
    | k => lawRun kd vl F n (i + 1) pr su le pa (judL tr k le su)
section Law
variable {G : Gam} {d n z : Nat} {f : Mf}
theorem i2l_1 : (1 : Int32).toInt64 = (bI True).toInt64 := rfl
theorem bI_tl {p : Prop} [Decidable p] (h : p) : (bI p).toInt64 = (1 : Int32).toInt64 := by rw [bI_t h]
theorem bI_fl {p : Prop} [Decidable p] (h : ¬ p) : (bI p).toInt64 = (0 : Int32).toInt64 := by rw [bI_f h]
theorem m2l : (-2 : Int32).toInt64 = (-2 : Int64) := rfl
theorem t_judged (hG : Ok G) (tr : Int64) {k : Nat} (hk : k < 16) (l r : Int32) : Tr G d 47 [.long tr, .int (nI k), .int l, .int r] n z f (Same (.long (judL tr k l r)) n z f) := by
  refine Tr.of2 (ls0 := [.long tr, dead, .int (nI k), .int l, .int r, dead, dead]) hG mo_X3_judged (Nat.le_of_ble_eq_true rfl) rfl ?_
  intro X hi hd hXn hXz hXf hQ
  have hto : (nI k).toInt = (k : Int) := nI_toInt (by omega)
  refine wp_sound (by rw [hi]; exact ok_X3_judged) (hd := []) 400 _ _ _ _ _ _ ?_
  simp only [wp, stp, List.mem_cons, List.not_mem_nil, Nat.reduceEqDiff, or_false, or_self, false_or, or_true, true_or, Nat.reduceAdd, ↓reduceIte, List.getElem?_cons_zero, List.getElem?_cons_succ, nthV, List.set_cons_zero, List.set_cons_succ, noL, popA, catS, Value.category, List.length_cons, List.length_nil, Nat.reduceLT, Nat.reduceLeDiff, true_and, and_true, one0, zer1, imp_t, imp_f, ofN_nI, sdead, f20, f21, not_true_eq_false, upC_ap, retC, fitC, isRefT, Option.toList_some, Option.toList_none, List.cons_append, List.nil_append, Nat.lt_add_one, Nat.zero_lt_succ, Nat.le_refl, Nat.add_zero, Nat.zero_add, Nat.one_ne_zero, Nat.zero_ne_one, Nat.lt_irrefl, List.length_set, fa_X3_judged, hi, hd, hQ, mr_X3_judged, hto, tg_X3_judged, swt, lks, Int.reduceAdd]
  have S' : ∀ x y : Int64, x = y → Same (.long y) n z f (some (.long x)) n z f := fun x y h => ⟨by rw [h], rfl, rfl, rfl⟩
  refine ⟨fun h => S' _ _ ?_, fun h => ?_, fun h => ?_, fun h => ?_, fun h => ?_, fun h => ?_, fun h => ?_⟩
  · have : k = 0 ∨ k = 1 ∨ k = 2 ∨ k = 3 ∨ k = 4 ∨ k = 5 ∨ k = 6 ∨ k = 7 ∨ k = 14 ∨ k = 15 := by omega
    rcases this with rfl | rfl | rfl | rfl | rfl | rfl | rfl | rfl | rfl | rfl <;> rfl
  · have e : k = 8 := by omega
    subst e
    exact ⟨fun q => S' _ _ (by rw [judL, bI_fl (Int32.not_lt.mpr q)]), fun q => S' _ _ (by rw [judL, bI_tl (Int32.not_le.mp q)])⟩
  · have e : k = 9 := by omega
    subst e
    exact ⟨fun q => S' _ _ (by rw [judL, bI_fl q]), fun q => S' _ _ (by rw [judL, bI_tl q])⟩
  · have e : k = 10 := by omega
    subst e
    exact ⟨fun q => S' _ _ (by rw [judL, bI_fl (Int32.not_lt.mpr q)]), fun q => S' _ _ (by rw [judL, bI_tl (Int32.not_le.mp q)])⟩
  · have e : k = 11 := by omega
    subst e; exact S' _ _ rfl
  · have e : k = 12 := by omega
    subst e; exact S' _ _ rfl
  · have e : k = 13 := by omega
    subst e; exact S' _ _ rfl
/-- the steps of a law: kinds and values -/
def Enc (st : Nat → Int32) (m : Nat) (kd vl : Nat → Nat) : Prop := m ≤ 800 ∧ ∀ i, i < m → st i = nI (65536 * kd i + vl i) ∧ kd i < 16 ∧ vl i < 65536
theorem enc_and {a b : Nat} (ha : a < 16) (hb : b < 65536) : nI (65536 * a + b) &&& 65535 = nI b := by
  rw [pk_andN (by omega) 16 (by decide)]
  congr 1; omega
theorem enc_shr {a b : Nat} (ha : a < 16) (hb : b < 65536) : ((nI (65536 * a + b)).toUInt32 >>> ((16 : Int32).toUInt32 &&& Int32.toUInt32 31)).toInt32 = nI a := by
  rw [pk_ushrN (by omega) 16 16 (by decide)]
  congr 1; omega
theorem t_amount (hG : Ok G) (hd1 : 1 ≤ d) {lp sp fp m : Nat} {v0 v1 : Value} {st F : Nat → Int32} {kd vl : Nat → Nat} (h1 : f lp = cO 3 [v0, v1, .ref sp]) (h2 : f sp = cI m st) (h3 : f fp = cI 8 F) (hE : Enc st m kd vl) : Tr G d 46 [.ref lp, .ref fp] n z f (Same (.int (lawRun kd vl F m 0 0 0 0 0 (Int64.ofNat 0))) n z f) := by
  obtain ⟨hm, hE⟩ := hE
  refine Tr.of2 (ls0 := [.ref lp, .ref fp, dead, dead, dead, dead, dead, dead, dead, dead, dead]) hG mo_X3_amount (Nat.le_of_ble_eq_true rfl) rfl ?_
  intro X hi hd hXn hXz hXf hQ
  have loop : ∀ k i pr su le pa tr u9 u10, i + k = m → lawRun kd vl F m 0 0 0 0 0 (Int64.ofNat 0) = lawRun kd vl F k i pr su le pa tr → V G X 16 [.ref lp, .ref fp, .int pr, .int su, .int le, .int pa, .long tr, dead, .int (nI i), u9, u10] [] n z f := by
    intro k
    induction k with
    | zero =>
      intro i pr su le pa tr u9 u10 hk he
      refine wp_sound (by rw [hi]; exact ok_X3_amount) (hd := [16, 253]) 400 _ _ _ _ _ _ ?_
      simp only [wp, stp, List.mem_cons, List.not_mem_nil, Nat.reduceEqDiff, or_false, or_self, false_or, or_true, true_or, Nat.reduceAdd, ↓reduceIte, List.getElem?_cons_zero, List.getElem?_cons_succ, nthV, List.set_cons_zero, List.set_cons_succ, noL, popA, catS, Value.category, List.length_cons, List.length_nil, Nat.reduceLT, Nat.reduceLeDiff, true_and, and_true, one0, zer1, imp_t, imp_f, ofN_nI, sdead, f20, f21, not_true_eq_false, upC_ap, retC, fitC, isRefT, Option.toList_some, Option.toList_none, List.cons_append, List.nil_append, Nat.lt_add_one, Nat.zero_lt_succ, Nat.le_refl, Nat.add_zero, Nat.zero_add, Nat.one_ne_zero, Nat.zero_ne_one, Nat.lt_irrefl, List.length_set, fa_X3_amount, hi, hd, hQ, mr_X3_amount, h1, h2, h3, tg_X3_amount, swt, lks, Int.reduceAdd]
      try simp only [m1f]
      try simp (disch := omega) only [nI_leI, nI_ltI, nI_eq, nI_clamp, vin_nI, nI_1, fa_lit, nI_add, nI_rm3, nI_rm2, pk_rem, pk_mul, pk_sub, pk_div, nI_eM, nI_Me, nI_pM, nI_pMz, nI_pM0, M1_lt, M1_le, nI_ltM, nI_leM, i8_nI, true_and, and_true, false_implies, true_implies, not_false_eq_true, not_true_eq_false, ne_eq, implies_true, Nat.not_lt_zero, Nat.zero_le]
      try simp only [m1u]
      exact ⟨fun _ => Same.i he.symm, fun h => absurd (by omega) h⟩
    | succ k ih =>
      intro i pr su le pa tr u9 u10 hk he
      obtain ⟨e1, e2, e3⟩ := hE i (by omega)
      have h255 : ∀ pr su le pa tr u9 u10, lawRun kd vl F m 0 0 0 0 0 (Int64.ofNat 0) = lawRun kd vl F k (i + 1) pr su le pa tr → V G X 255 [.ref lp, .ref fp, .int pr, .int su, .int le, .int pa, .long tr, dead, .int (nI i), u9, u10] [] n z f := by
        intro pr su le pa tr u9 u10 he
        refine wp_sound (by rw [hi]; exact ok_X3_amount) (hd := [16, 253]) 400 _ _ _ _ _ _ ?_
        simp only [wp, stp, List.mem_cons, List.not_mem_nil, Nat.reduceEqDiff, or_false, or_self, false_or, or_true, true_or, Nat.reduceAdd, ↓reduceIte, List.getElem?_cons_zero, List.getElem?_cons_succ, nthV, List.set_cons_zero, List.set_cons_succ, noL, popA, catS, Value.category, List.length_cons, List.length_nil, Nat.reduceLT, Nat.reduceLeDiff, true_and, and_true, one0, zer1, imp_t, imp_f, ofN_nI, sdead, f20, f21, not_true_eq_false, upC_ap, retC, fitC, isRefT, Option.toList_some, Option.toList_none, List.cons_append, List.nil_append, Nat.lt_add_one, Nat.zero_lt_succ, Nat.le_refl, Nat.add_zero, Nat.zero_add, Nat.one_ne_zero, Nat.zero_ne_one, Nat.lt_irrefl, List.length_set, fa_X3_amount, hi, hd, hQ, mr_X3_amount, h1, h2, h3, tg_X3_amount, swt, lks, Int.reduceAdd]
        try simp only [m1f]
        try simp (disch := omega) only [nI_leI, nI_ltI, nI_eq, nI_clamp, vin_nI, nI_1, fa_lit, nI_add, nI_rm3, nI_rm2, pk_rem, pk_mul, pk_sub, pk_div, nI_eM, nI_Me, nI_pM, nI_pMz, nI_pM0, M1_lt, M1_le, nI_ltM, nI_leM, i8_nI, true_and, and_true, false_implies, true_implies, not_false_eq_true, not_true_eq_false, ne_eq, implies_true, Nat.not_lt_zero, Nat.zero_le]
        try simp only [m1u]
        exact ih (i + 1) pr su le pa tr u9 u10 (by omega) he
      rw [lawRun] at he
      have hcl : (nI i).toNatClampNeg = i := nI_clamp (by omega)
      have h64 : ∀ u10, V G X 64 [.ref lp, .ref fp, .int pr, .int su, .int le, .int pa, .long tr, dead, .int (nI i), .int (stV F (vl i)), u10] [] n z f := by
        intro u10
        have hto : (nI (kd i)).toInt = (kd i : Int) := nI_toInt (by omega)
        refine wp_sound (by rw [hi]; exact ok_X3_amount) (hd := [16, 253, 255]) 400 _ _ _ _ _ _ ?_
        simp only [wp, stp, List.mem_cons, List.not_mem_nil, Nat.reduceEqDiff, or_false, or_self, false_or, or_true, true_or, Nat.reduceAdd, ↓reduceIte, List.getElem?_cons_zero, List.getElem?_cons_succ, nthV, List.set_cons_zero, List.set_cons_succ, noL, popA, catS, Value.category, List.length_cons, List.length_nil, Nat.reduceLT, Nat.reduceLeDiff, true_and, and_true, one0, zer1, imp_t, imp_f, ofN_nI, sdead, f20, f21, not_true_eq_false, upC_ap, retC, fitC, isRefT, Option.toList_some, Option.toList_none, List.cons_append, List.nil_append, Nat.lt_add_one, Nat.zero_lt_succ, Nat.le_refl, Nat.add_zero, Nat.zero_add, Nat.one_ne_zero, Nat.zero_ne_one, Nat.lt_irrefl, List.length_set, fa_X3_amount, hi, hd, hQ, mr_X3_amount, h1, h2, h3, hcl, e1, enc_shr e2 e3, hto, tg_X3_amount, swt, lks, Int.reduceAdd]
        have hin : vp_in (nI i) m := (vin_nI (by omega)).mpr (by omega)
        refine ⟨hin, fun h => ?_, fun h => ?_, fun h => ?_, fun h => ?_, fun h => ?_, fun h => ?_, fun h => ?_, fun h => ?_, fun h => ?_, fun h => ?_, fun h => ?_, fun h => ?_, fun h => ?_, fun h => ?_, fun h => ?_, fun h => ?_, fun h => ?_⟩
        · omega
        · have e : kd i = 0 := by omega
          rw [e] at he
          exact h255 _ _ _ _ _ _ _ he
        · have e : kd i = 1 := by omega
          rw [e] at he
          exact h255 _ _ _ _ _ _ _ he
        · have e : kd i = 2 := by omega
          rw [e] at he
          exact ⟨fun q => ⟨q, h255 (pr / stV F (vl i)) su le pa tr _ _ (by rw [he, if_neg q]; rfl)⟩, fun q => h255 0 su le pa tr _ _ (by rw [he, if_pos q]; rfl)⟩
        · have e : kd i = 3 := by omega
          rw [e] at he
          exact h255 _ _ _ _ _ _ _ he
        · have e : kd i = 4 := by omega
          rw [e] at he
          exact h255 _ _ _ _ _ _ _ he
        · have e : kd i = 5 := by omega
          rw [e] at he
          exact h255 _ _ _ _ _ _ _ he
        · have e : kd i = 6 := by omega
          rw [e] at he
          exact h255 _ _ _ _ _ _ _ he
        · have e : kd i = 7 := by omega
          rw [e] at he
          exact h255 _ _ _ _ _ _ _ he
        · have e : kd i = 8 := by omega
          rw [e] at he
          refine ⟨hin, by omega, _, t_judged hG tr e2 le su, ?_⟩
          rintro v n' z' f' ⟨rfl, rfl, rfl, rfl⟩
          refine wp_sound (by rw [hi]; exact ok_X3_amount) (hd := [16, 253, 255]) 400 _ _ _ _ _ _ ?_
          simp only [wp, stp, List.mem_cons, List.not_mem_nil, Nat.reduceEqDiff, or_false, or_self, false_or, or_true, true_or, Nat.reduceAdd, ↓reduceIte, List.getElem?_cons_zero, List.getElem?_cons_succ, nthV, List.set_cons_zero, List.set_cons_succ, noL, popA, catS, Value.category, List.length_cons, List.length_nil, Nat.reduceLT, Nat.reduceLeDiff, true_and, and_true, one0, zer1, imp_t, imp_f, ofN_nI, sdead, f20, f21, not_true_eq_false, upC_ap, retC, fitC, isRefT, Option.toList_some, Option.toList_none, List.cons_append, List.nil_append, Nat.lt_add_one, Nat.zero_lt_succ, Nat.le_refl, Nat.add_zero, Nat.zero_add, Nat.one_ne_zero, Nat.zero_ne_one, Nat.lt_irrefl, List.length_set, fa_X3_amount, hi, hd, hQ, mr_X3_amount, h1, h2, h3, tg_X3_amount, swt, lks, Int.reduceAdd]
          exact h255 _ _ _ _ _ _ _ (by rw [e]; exact he)
        · have e : kd i = 9 := by omega
          rw [e] at he
          refine ⟨hin, by omega, _, t_judged hG tr e2 le su, ?_⟩
          rintro v n' z' f' ⟨rfl, rfl, rfl, rfl⟩
          refine wp_sound (by rw [hi]; exact ok_X3_amount) (hd := [16, 253, 255]) 400 _ _ _ _ _ _ ?_
          simp only [wp, stp, List.mem_cons, List.not_mem_nil, Nat.reduceEqDiff, or_false, or_self, false_or, or_true, true_or, Nat.reduceAdd, ↓reduceIte, List.getElem?_cons_zero, List.getElem?_cons_succ, nthV, List.set_cons_zero, List.set_cons_succ, noL, popA, catS, Value.category, List.length_cons, List.length_nil, Nat.reduceLT, Nat.reduceLeDiff, true_and, and_true, one0, zer1, imp_t, imp_f, ofN_nI, sdead, f20, f21, not_true_eq_false, upC_ap, retC, fitC, isRefT, Option.toList_some, Option.toList_none, List.cons_append, List.nil_append, Nat.lt_add_one, Nat.zero_lt_succ, Nat.le_refl, Nat.add_zero, Nat.zero_add, Nat.one_ne_zero, Nat.zero_ne_one, Nat.lt_irrefl, List.length_set, fa_X3_amount, hi, hd, hQ, mr_X3_amount, h1, h2, h3, tg_X3_amount, swt, lks, Int.reduceAdd]
          exact h255 _ _ _ _ _ _ _ (by rw [e]; exact he)
        · have e : kd i = 10 := by omega
          rw [e] at he
          refine ⟨hin, by omega, _, t_judged hG tr e2 le su, ?_⟩
          rintro v n' z' f' ⟨rfl, rfl, rfl, rfl⟩
          refine wp_sound (by rw [hi]; exact ok_X3_amount) (hd := [16, 253, 255]) 400 _ _ _ _ _ _ ?_
          simp only [wp, stp, List.mem_cons, List.not_mem_nil, Nat.reduceEqDiff, or_false, or_self, false_or, or_true, true_or, Nat.reduceAdd, ↓reduceIte, List.getElem?_cons_zero, List.getElem?_cons_succ, nthV, List.set_cons_zero, List.set_cons_succ, noL, popA, catS, Value.category, List.length_cons, List.length_nil, Nat.reduceLT, Nat.reduceLeDiff, true_and, and_true, one0, zer1, imp_t, imp_f, ofN_nI, sdead, f20, f21, not_true_eq_false, upC_ap, retC, fitC, isRefT, Option.toList_some, Option.toList_none, List.cons_append, List.nil_append, Nat.lt_add_one, Nat.zero_lt_succ, Nat.le_refl, Nat.add_zero, Nat.zero_add, Nat.one_ne_zero, Nat.zero_ne_one, Nat.lt_irrefl, List.length_set, fa_X3_amount, hi, hd, hQ, mr_X3_amount, h1, h2, h3, tg_X3_amount, swt, lks, Int.reduceAdd]
          exact h255 _ _ _ _ _ _ _ (by rw [e]; exact he)
        · have e : kd i = 11 := by omega
          rw [e] at he
          refine ⟨hin, by omega, _, t_judged hG tr e2 le su, ?_⟩
          rintro v n' z' f' ⟨rfl, rfl, rfl, rfl⟩
          refine wp_sound (by rw [hi]; exact ok_X3_amount) (hd := [16, 253, 255]) 400 _ _ _ _ _ _ ?_
          simp only [wp, stp, List.mem_cons, List.not_mem_nil, Nat.reduceEqDiff, or_false, or_self, false_or, or_true, true_or, Nat.reduceAdd, ↓reduceIte, List.getElem?_cons_zero, List.getElem?_cons_succ, nthV, List.set_cons_zero, List.set_cons_succ, noL, popA, catS, Value.category, List.length_cons, List.length_nil, Nat.reduceLT, Nat.reduceLeDiff, true_and, and_true, one0, zer1, imp_t, imp_f, ofN_nI, sdead, f20, f21, not_true_eq_false, upC_ap, retC, fitC, isRefT, Option.toList_some, Option.toList_none, List.cons_append, List.nil_append, Nat.lt_add_one, Nat.zero_lt_succ, Nat.le_refl, Nat.add_zero, Nat.zero_add, Nat.one_ne_zero, Nat.zero_ne_one, Nat.lt_irrefl, List.length_set, fa_X3_amount, hi, hd, hQ, mr_X3_amount, h1, h2, h3, tg_X3_amount, swt, lks, Int.reduceAdd]
          exact h255 _ _ _ _ _ _ _ (by rw [e]; exact he)
        · have e : kd i = 12 := by omega
          rw [e] at he
          refine ⟨hin, by omega, _, t_judged hG tr e2 le su, ?_⟩
          rintro v n' z' f' ⟨rfl, rfl, rfl, rfl⟩
          refine wp_sound (by rw [hi]; exact ok_X3_amount) (hd := [16, 253, 255]) 400 _ _ _ _ _ _ ?_
          simp only [wp, stp, List.mem_cons, List.not_mem_nil, Nat.reduceEqDiff, or_false, or_self, false_or, or_true, true_or, Nat.reduceAdd, ↓reduceIte, List.getElem?_cons_zero, List.getElem?_cons_succ, nthV, List.set_cons_zero, List.set_cons_succ, noL, popA, catS, Value.category, List.length_cons, List.length_nil, Nat.reduceLT, Nat.reduceLeDiff, true_and, and_true, one0, zer1, imp_t, imp_f, ofN_nI, sdead, f20, f21, not_true_eq_false, upC_ap, retC, fitC, isRefT, Option.toList_some, Option.toList_none, List.cons_append, List.nil_append, Nat.lt_add_one, Nat.zero_lt_succ, Nat.le_refl, Nat.add_zero, Nat.zero_add, Nat.one_ne_zero, Nat.zero_ne_one, Nat.lt_irrefl, List.length_set, fa_X3_amount, hi, hd, hQ, mr_X3_amount, h1, h2, h3, tg_X3_amount, swt, lks, Int.reduceAdd]
          exact h255 _ _ _ _ _ _ _ (by rw [e]; exact he)
        · have e : kd i = 13 := by omega
          rw [e] at he
          refine ⟨hin, by omega, _, t_judged hG tr e2 le su, ?_⟩
          rintro v n' z' f' ⟨rfl, rfl, rfl, rfl⟩
          refine wp_sound (by rw [hi]; exact ok_X3_amount) (hd := [16, 253, 255]) 400 _ _ _ _ _ _ ?_
          simp only [wp, stp, List.mem_cons, List.not_mem_nil, Nat.reduceEqDiff, or_false, or_self, false_or, or_true, true_or, Nat.reduceAdd, ↓reduceIte, List.getElem?_cons_zero, List.getElem?_cons_succ, nthV, List.set_cons_zero, List.set_cons_succ, noL, popA, catS, Value.category, List.length_cons, List.length_nil, Nat.reduceLT, Nat.reduceLeDiff, true_and, and_true, one0, zer1, imp_t, imp_f, ofN_nI, sdead, f20, f21, not_true_eq_false, upC_ap, retC, fitC, isRefT, Option.toList_some, Option.toList_none, List.cons_append, List.nil_append, Nat.lt_add_one, Nat.zero_lt_succ, Nat.le_refl, Nat.add_zero, Nat.zero_add, Nat.one_ne_zero, Nat.zero_ne_one, Nat.lt_irrefl, List.length_set, fa_X3_amount, hi, hd, hQ, mr_X3_amount, h1, h2, h3, tg_X3_amount, swt, lks, Int.reduceAdd]
          exact h255 _ _ _ _ _ _ _ (by rw [e]; exact he)
        · have e : kd i = 14 := by omega
          rw [e] at he
          exact ⟨fun q => h255 pr su le pa (Int64.ofNat 0) _ _ (by rw [he, if_pos q]; rfl), fun q => Same.i (by rw [he, if_neg q]; rfl)⟩
        · have e : kd i = 15 := by omega
          rw [e] at he
          exact Same.i he.symm
      refine wp_sound (by rw [hi]; exact ok_X3_amount) (hd := [16, 64, 253]) 400 _ _ _ _ _ _ ?_
      simp only [wp, stp, List.mem_cons, List.not_mem_nil, Nat.reduceEqDiff, or_false, or_self, false_or, or_true, true_or, Nat.reduceAdd, ↓reduceIte, List.getElem?_cons_zero, List.getElem?_cons_succ, nthV, List.set_cons_zero, List.set_cons_succ, noL, popA, catS, Value.category, List.length_cons, List.length_nil, Nat.reduceLT, Nat.reduceLeDiff, true_and, and_true, one0, zer1, imp_t, imp_f, ofN_nI, sdead, f20, f21, not_true_eq_false, upC_ap, retC, fitC, isRefT, Option.toList_some, Option.toList_none, List.cons_append, List.nil_append, Nat.lt_add_one, Nat.zero_lt_succ, Nat.le_refl, Nat.add_zero, Nat.zero_add, Nat.one_ne_zero, Nat.zero_ne_one, Nat.lt_irrefl, List.length_set, fa_X3_amount, hi, hd, hQ, mr_X3_amount, h1, h2, h3, hcl, e1, enc_and e2 e3, tg_X3_amount, swt, lks, Int.reduceAdd]
      try simp only [m1f]
      try simp (disch := omega) only [nI_leI, nI_ltI, nI_eq, nI_clamp, vin_nI, nI_1, fa_lit, nI_add, nI_rm3, nI_rm2, pk_rem, pk_mul, pk_sub, pk_div, nI_eM, nI_Me, nI_pM, nI_pMz, nI_pM0, M1_lt, M1_le, nI_ltM, nI_leM, i8_nI, true_and, and_true, false_implies, true_implies, not_false_eq_true, not_true_eq_false, ne_eq, implies_true, Nat.not_lt_zero, Nat.zero_le]
      try simp only [m1u]
      refine ⟨fun h => absurd h (by omega), fun _ => ⟨by omega, ?_⟩⟩
      by_cases hv : vl i < 10000
      · rw [show stV F (vl i) = nI (vl i) from if_neg (by omega)] at h64
        exact ⟨fun _ => h64 _, fun h => absurd (pk_sneg (by omega) hv) h⟩
      · rw [pk_sub (by omega), nI_ltI (by omega) (by omega), nI_leI (by omega) (by omega), nI_clamp (by omega), vin_nI (by omega)]
        refine ⟨fun h => absurd h (Nat.not_lt_zero _), fun _ => ⟨fun h => ?_, fun h => ⟨by omega, ?_⟩⟩⟩
        · rw [show stV F (vl i) = nI (vl i) from if_neg (by omega)] at h64
          exact h64 _
        · rw [show stV F (vl i) = F (vl i - 10000) from if_pos (by omega)] at h64
          exact h64 _
  refine wp_sound (by rw [hi]; exact ok_X3_amount) (hd := [16, 253]) 400 _ _ _ _ _ _ ?_
  simp only [wp, stp, List.mem_cons, List.not_mem_nil, Nat.reduceEqDiff, or_false, or_self, false_or, or_true, true_or, Nat.reduceAdd, ↓reduceIte, List.getElem?_cons_zero, List.getElem?_cons_succ, nthV, List.set_cons_zero, List.set_cons_succ, noL, popA, catS, Value.category, List.length_cons, List.length_nil, Nat.reduceLT, Nat.reduceLeDiff, true_and, and_true, one0, zer1, imp_t, imp_f, ofN_nI, sdead, f20, f21, not_true_eq_false, upC_ap, retC, fitC, isRefT, Option.toList_some, Option.toList_none, List.cons_append, List.nil_append, Nat.lt_add_one, Nat.zero_lt_succ, Nat.le_refl, Nat.add_zero, Nat.zero_add, Nat.one_ne_zero, Nat.zero_ne_one, Nat.lt_irrefl, List.length_set, fa_X3_amount, hi, hd, hQ, mr_X3_amount, h1, h2, h3, tg_X3_amount, swt, lks, Int.reduceAdd]
  try simp only [m1f]
  try simp (disch := omega) only [nI_leI, nI_ltI, nI_eq, nI_clamp, vin_nI, nI_1, fa_lit, nI_add, nI_rm3, nI_rm2, pk_rem, pk_mul, pk_sub, pk_div, nI_eM, nI_Me, nI_pM, nI_pMz, nI_pM0, M1_lt, M1_le, nI_ltM, nI_leM, i8_nI, true_and, and_true, false_implies, true_implies, not_false_eq_true, not_true_eq_false, ne_eq, implies_true, Nat.not_lt_zero, Nat.zero_le]
  try simp only [m1u]
  exact loop m 0 0 0 0 0 _ _ _ (by omega) rfl
end Law
