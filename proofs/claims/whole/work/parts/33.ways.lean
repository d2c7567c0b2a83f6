-- Ways.from whole, Ways.forget
set_option maxRecDepth 100000
set_option maxHeartbeats 4000000
theorem CR.off {S : Sta} {lp : Nat} {f f' : Mf} (h : CR S lp f) (hf : ∀ k, 1 ≤ k → k ≤ 9 → f' k = f k) : CR S lp f' := by
  unfold CR at *
  rw [hf 1 (by omega) (by omega), hf 2 (by omega) (by omega), hf 3 (by omega) (by omega), hf 4 (by omega) (by omega), hf 5 (by omega) (by omega), hf 6 (by omega) (by omega), hf 7 (by omega) (by omega), hf 8 (by omega) (by omega), hf 9 (by omega) (by omega)]
  exact h
theorem c100 : (100 : Int32).toNatClampNeg = 100 := rfl
theorem c100n : ((100 : Int32) < 0) = False := eq_false (by decide)
/-- new rows are new cells -/
def GX (n : Nat) (g g' : Nat → Option Nat) : Prop := ∀ i p, i < 100 → g' i = some p → g i = some p ∨ n ≤ p
section From2
variable {G : Gam} {d n z lp a k : Nat} {f : Mf} {S : Sta} {g : Nat → Option Nat}
/-- what a search gives -/
def FrP_12 (S : Sta) (f : Mf) (n z a : Nat) (g : Nat → Option Nat) (k : Nat) : Po := fun v n' z' f' => ∃ p r g', v = some (.ref p) ∧ f' p = cB 100 r ∧ (∀ j, j < 100 → r j = wayS S 1 a j) ∧ WyR S 1 12 f' n' g' k ∧ FRw 12 f n g f' ∧ n' + nulG g' = n + nulG g ∧ z' + 100 * nulG g' = z + 100 * nulG g ∧ n ≤ n' ∧ GX n g g'
theorem t_from_12 (hG : Ok G) (hd1 : 1 ≤ d) (hB : Bd S) (hC : CR S lp f) (hO : OC f) (hW : WyR S 1 12 f n g k) (h49 : 49 ≤ n) (ha : a < 100) (hop : opS S 1 a) (hn : n + nulG g ≤ CAP) (hz : z + 100 * nulG g ≤ SCAP) : Tr G d 87 [.ref 12, .int (nI a)] n z f (FrP_12 S f n z a g k) := by
  obtain ⟨sg, qq, w1, w2, w3, w4, w5, w6, w7, w8⟩ := id hW
  have hcl : (nI a).toNatClampNeg = a := nI_clamp (by omega)
  have hCAP : CAP = 600000 := rfl
  have hSCAP : SCAP = 7302249 := rfl
  refine Tr.of2 (ls0 := [.ref 12, .int (nI a), dead, dead, dead, dead, dead, dead, dead, dead, dead, dead]) hG mo_X7_from (Nat.le_of_ble_eq_true rfl) rfl ?_
  intro X hi hd hXn hXz hXf hQ
  cases hg : g a with
  | some p =>
    have hv : va_rf (g a) = .ref p := by rw [hg]; rfl
    refine wp_sound (by rw [hi]; exact ok_X7_from) (hd := [23, 53, 69, 94]) 400 _ _ _ _ _ _ ?_
    simp only [wp, stp, List.mem_cons, List.not_mem_nil, Nat.reduceEqDiff, or_false, or_self, false_or, or_true, true_or, Nat.reduceAdd, ↓reduceIte, List.getElem?_cons_zero, List.getElem?_cons_succ, nthV, List.set_cons_zero, List.set_cons_succ, noL, popA, catS, Value.category, List.length_cons, List.length_nil, Nat.reduceLT, Nat.reduceLeDiff, true_and, and_true, one0, zer1, imp_t, imp_f, ofN_nI, sdead, f20, f21, not_true_eq_false, upC_ap, retC, fitC, isRefT, Option.toList_some, Option.toList_none, List.cons_append, List.nil_append, Nat.lt_add_one, Nat.zero_lt_succ, Nat.le_refl, Nat.add_zero, Nat.zero_add, Nat.one_ne_zero, Nat.zero_ne_one, Nat.lt_irrefl, List.length_set, fa_X7_from, hi, hd, hQ, mr_X7_from, w1, w2, w3, hcl, hv]
    try simp only [m1f]
    try simp (disch := omega) only [nI_leI, nI_ltI, nI_eq, nI_clamp, vin_nI, nI_1, fa_lit, nI_add, nI_rm3, nI_rm2, pk_rem, pk_mul, pk_sub, pk_div, nI_eM, nI_Me, nI_pM, nI_pMz, nI_pM0, M1_lt, M1_le, nI_ltM, nI_leM, i8_nI, true_and, and_true, false_implies, true_implies, not_false_eq_true, not_true_eq_false, ne_eq, implies_true, Nat.not_lt_zero, Nat.zero_le]
    try simp only [m1u]
    refine ⟨ha, from23_12 hi hd hd1 hG hB hC hO hW ha hop hg (by omega) hQ (fun f' r h1 h2 h3 h4 => ?_) _ _ _ _ _ _ _ _ _⟩
    exact ⟨p, r, g, rfl, h2, h1, h3, h4, rfl, rfl, Nat.le_refl _, fun i p _ h => Or.inl h⟩
  | none =>
    have hv : va_rf (g a) = .null := by rw [hg]; rfl
    have hnp := nul_pos ha hg
    have e1 : (12 = n) = False := eq_false (by omega)
    have e2 : (13 = n) = False := eq_false (by omega)
    have e3 : (n = 13) = False := eq_false (by omega)
    refine wp_sound (by rw [hi]; exact ok_X7_from) (hd := [23, 53, 69, 94]) 400 _ _ _ _ _ _ ?_
    simp only [wp, stp, List.mem_cons, List.not_mem_nil, Nat.reduceEqDiff, or_false, or_self, false_or, or_true, true_or, Nat.reduceAdd, ↓reduceIte, List.getElem?_cons_zero, List.getElem?_cons_succ, nthV, List.set_cons_zero, List.set_cons_succ, noL, popA, catS, Value.category, List.length_cons, List.length_nil, Nat.reduceLT, Nat.reduceLeDiff, true_and, and_true, one0, zer1, imp_t, imp_f, ofN_nI, sdead, f20, f21, not_true_eq_false, upC_ap, retC, fitC, isRefT, Option.toList_some, Option.toList_none, List.cons_append, List.nil_append, Nat.lt_add_one, Nat.zero_lt_succ, Nat.le_refl, Nat.add_zero, Nat.zero_add, Nat.one_ne_zero, Nat.zero_ne_one, Nat.lt_irrefl, List.length_set, fa_X7_from, hi, hd, hQ, mr_X7_from, w1, w2, w3, hcl, hv, c100, c100n, e1, e2, e3, va_up]
    try simp only [m1f]
    try simp (disch := omega) only [nI_leI, nI_ltI, nI_eq, nI_clamp, vin_nI, nI_1, fa_lit, nI_add, nI_rm3, nI_rm2, pk_rem, pk_mul, pk_sub, pk_div, nI_eM, nI_Me, nI_pM, nI_pMz, nI_pM0, M1_lt, M1_le, nI_ltM, nI_leM, i8_nI, true_and, and_true, false_implies, true_implies, not_false_eq_true, not_true_eq_false, ne_eq, implies_true, Nat.not_lt_zero, Nat.zero_le]
    try simp only [m1u]
    have hf1 : ∀ x, ¬ x = n → ¬ x = 13 → upC (upC f n (cB 100 (fun _ => 0))) 13 (cQ 100 (va_up g a (some n))) x = f x := fun x h1 h2 => by rw [upC_ne _ _ h2, upC_ne _ _ h1]
    have hnu := nul_up (p := n) ha hg
    refine ⟨ha, by omega, by omega, ha, (show n < 1000000 by omega), from23_12 hi hd hd1 hG hB (g := va_up g a (some n)) (k := k) (hC.off (fun k h1 h2 => hf1 k (by omega) (by omega))) ⟨by rw [hf1 _ (by omega) (by omega)]; exact hO.1, by rw [hf1 _ (by omega) (by omega)]; exact hO.2⟩ ⟨sg, qq, by rw [hf1 _ (by omega) (by omega)]; exact w1, upC_self _ _ _, by rw [hf1 _ (by omega) (by omega)]; exact w3, by rw [hf1 _ (by omega) (by omega)]; exact w4, w5, fun i hi' => ⟨(w6 i hi').1, fun h => (w6 i hi').2 (by
      by_cases e : i = a
      · subst e; exact hg
      · rw [va_up, if_neg e] at h; exact h)⟩, fun i hi' p hp => ?_, fun i j p h1 h2 h3 h4 => ?_⟩ ha hop (by simp [va_up]) (by omega) hQ (fun f' r h1 h2 h3 h4 => ?_) _ _ _ _ _ _ _ _ _⟩
    · by_cases e : i = a
      · subst e
        rw [va_up, if_pos rfl] at hp
        cases hp
        exact ⟨h49, by omega, fun _ => 0, by rw [upC_ne _ _ (by omega), upC_self], fun hs => absurd hs ((w6 i hi').2 hg)⟩
      · rw [va_up, if_neg e] at hp
        obtain ⟨b1, b2, r, b3, b4⟩ := w7 i hi' p hp
        exact ⟨b1, by omega, r, by rw [hf1 _ (by omega) (by omega)]; exact b3, b4⟩
    · by_cases e1 : i = a <;> by_cases e2 : j = a
      · omega
      · subst e1
        rw [va_up, if_pos rfl] at h3
        rw [va_up, if_neg e2] at h4
        cases h3
        have := (w7 j h2 n h4).2.1; omega
      · subst e2
        rw [va_up, if_pos rfl] at h4
        rw [va_up, if_neg e1] at h3
        cases h4
        have := (w7 i h1 n h3).2.1; omega
      · rw [va_up, if_neg e1] at h3
        rw [va_up, if_neg e2] at h4
        exact w8 i j p h1 h2 h3 h4
    · refine ⟨n, r, va_up g a (some n), rfl, h2, h1, h3, ⟨fun x hx hn => ?_, fun x hx1 hx2 hx3 => ?_, fun x hx => ?_⟩, by omega, by omega, by omega, fun i p hi' h => ?_⟩
      · rw [h4.1 x hx hn, hf1 x (by omega) (fun h => hn (Or.inl h))]
      · rw [h4.2.1 x hx1 (by omega) (fun i hi' h => ?_), hf1 x (by omega) (by omega)]
        by_cases e : i = a
        · subst e; rw [va_up, if_pos rfl] at h; cases h; omega
        · rw [va_up, if_neg e] at h; exact hx3 i hi' h
      · rw [h4.2.2 x hx, hf1 x (by omega) (by omega)]
      · by_cases e : i = a
        · subst e; rw [va_up, if_pos rfl] at h; cases h; exact Or.inr (Nat.le_refl _)
        · rw [va_up, if_neg e] at h; exact Or.inl h
theorem t_forget_12 (hG : Ok G) (hW : WyR S 1 12 f n g k) (hk : k + 1 < 100000) (S' : Sta) : Tr G d 86 [.ref 12] n z f (fun v n' z' f' => v = none ∧ n' = n ∧ z' = z ∧ WyR S' 1 12 f' n g (k + 1) ∧ ∀ x, ¬ x = 12 → f' x = f x) := by
  obtain ⟨sg, qq, w1, w2, w3, w4, w5, w6, w7, w8⟩ := id hW
  refine Tr.of2 (ls0 := [.ref 12]) hG mo_X7_forget (Nat.le_of_ble_eq_true rfl) rfl ?_
  intro X hi hd hXn hXz hXf hQ
  refine wp_sound (by rw [hi]; exact ok_X7_forget) (hd := []) 400 _ _ _ _ _ _ ?_
  simp only [wp, stp, List.mem_cons, List.not_mem_nil, Nat.reduceEqDiff, or_false, or_self, false_or, or_true, true_or, Nat.reduceAdd, ↓reduceIte, List.getElem?_cons_zero, List.getElem?_cons_succ, nthV, List.set_cons_zero, List.set_cons_succ, noL, popA, catS, Value.category, List.length_cons, List.length_nil, Nat.reduceLT, Nat.reduceLeDiff, true_and, and_true, one0, zer1, imp_t, imp_f, ofN_nI, sdead, f20, f21, not_true_eq_false, upC_ap, retC, fitC, isRefT, Option.toList_some, Option.toList_none, List.cons_append, List.nil_append, Nat.lt_add_one, Nat.zero_lt_succ, Nat.le_refl, Nat.add_zero, Nat.zero_add, Nat.one_ne_zero, Nat.zero_ne_one, Nat.lt_irrefl, List.length_set, fa_X7_forget, hi, hd, hQ, mr_X7_forget, w1]
  try simp only [m1f]
  try simp (disch := omega) only [nI_leI, nI_ltI, nI_eq, nI_clamp, vin_nI, nI_1, fa_lit, nI_add, nI_rm3, nI_rm2, pk_rem, pk_mul, pk_sub, pk_div, nI_eM, nI_Me, nI_pM, nI_pMz, nI_pM0, M1_lt, M1_le, nI_ltM, nI_leM, i8_nI, true_and, and_true, false_implies, true_implies, not_false_eq_true, not_true_eq_false, ne_eq, implies_true, Nat.not_lt_zero, Nat.zero_le]
  try simp only [m1u]
  have hne : ∀ i, i < 100 → ¬ sg i = nI (k + 1) := fun i hi' h => by
    obtain ⟨⟨j, h1, h2⟩, -⟩ := w6 i hi'
    rw [h2, nI_eq (by omega) (by omega)] at h
    omega
  have hx : ∀ x c, ¬ x = 12 → upC f 12 c x = f x := fun x c h => upC_ne _ _ h
  refine ⟨⟨sg, qq, upC_self _ _ _, by rw [hx _ _ (by omega)]; exact w2, by rw [hx _ _ (by omega)]; exact w3, by rw [hx _ _ (by omega)]; exact w4, hk, fun i hi' => ?_, fun i hi' p hp => ?_, w8⟩, fun x h => hx x _ h⟩
  · obtain ⟨⟨j, h1, h2⟩, -⟩ := w6 i hi'
    exact ⟨⟨j, by omega, h2⟩, fun _ => hne i hi'⟩
  · obtain ⟨b1, b2, r, b3, b4⟩ := w7 i hi' p hp
    exact ⟨b1, b2, r, by rw [hx _ _ (by omega)]; exact b3, fun h => absurd h (hne i hi')⟩
/-- what a search gives -/
def FrP_16 (S : Sta) (f : Mf) (n z a : Nat) (g : Nat → Option Nat) (k : Nat) : Po := fun v n' z' f' => ∃ p r g', v = some (.ref p) ∧ f' p = cB 100 r ∧ (∀ j, j < 100 → r j = wayS S 0 a j) ∧ WyR S 0 16 f' n' g' k ∧ FRw 16 f n g f' ∧ n' + nulG g' = n + nulG g ∧ z' + 100 * nulG g' = z + 100 * nulG g ∧ n ≤ n' ∧ GX n g g'
theorem t_from_16 (hG : Ok G) (hd1 : 1 ≤ d) (hB : Bd S) (hC : CR S lp f) (hO : OC f) (hW : WyR S 0 16 f n g k) (h49 : 49 ≤ n) (ha : a < 100) (hop : opS S 0 a) (hn : n + nulG g ≤ CAP) (hz : z + 100 * nulG g ≤ SCAP) : Tr G d 87 [.ref 16, .int (nI a)] n z f (FrP_16 S f n z a g k) := by
  obtain ⟨sg, qq, w1, w2, w3, w4, w5, w6, w7, w8⟩ := id hW
  have hcl : (nI a).toNatClampNeg = a := nI_clamp (by omega)
  have hCAP : CAP = 600000 := rfl
  have hSCAP : SCAP = 7302249 := rfl
  refine Tr.of2 (ls0 := [.ref 16, .int (nI a), dead, dead, dead, dead, dead, dead, dead, dead, dead, dead]) hG mo_X7_from (Nat.le_of_ble_eq_true rfl) rfl ?_
  intro X hi hd hXn hXz hXf hQ
  cases hg : g a with
  | some p =>
    have hv : va_rf (g a) = .ref p := by rw [hg]; rfl
    refine wp_sound (by rw [hi]; exact ok_X7_from) (hd := [23, 53, 69, 94]) 400 _ _ _ _ _ _ ?_
    simp only [wp, stp, List.mem_cons, List.not_mem_nil, Nat.reduceEqDiff, or_false, or_self, false_or, or_true, true_or, Nat.reduceAdd, ↓reduceIte, List.getElem?_cons_zero, List.getElem?_cons_succ, nthV, List.set_cons_zero, List.set_cons_succ, noL, popA, catS, Value.category, List.length_cons, List.length_nil, Nat.reduceLT, Nat.reduceLeDiff, true_and, and_true, one0, zer1, imp_t, imp_f, ofN_nI, sdead, f20, f21, not_true_eq_false, upC_ap, retC, fitC, isRefT, Option.toList_some, Option.toList_none, List.cons_append, List.nil_append, Nat.lt_add_one, Nat.zero_lt_succ, Nat.le_refl, Nat.add_zero, Nat.zero_add, Nat.one_ne_zero, Nat.zero_ne_one, Nat.lt_irrefl, List.length_set, fa_X7_from, hi, hd, hQ, mr_X7_from, w1, w2, w3, hcl, hv]
    try simp only [m1f]
    try simp (disch := omega) only [nI_leI, nI_ltI, nI_eq, nI_clamp, vin_nI, nI_1, fa_lit, nI_add, nI_rm3, nI_rm2, pk_rem, pk_mul, pk_sub, pk_div, nI_eM, nI_Me, nI_pM, nI_pMz, nI_pM0, M1_lt, M1_le, nI_ltM, nI_leM, i8_nI, true_and, and_true, false_implies, true_implies, not_false_eq_true, not_true_eq_false, ne_eq, implies_true, Nat.not_lt_zero, Nat.zero_le]
    try simp only [m1u]
    refine ⟨ha, from23_16 hi hd hd1 hG hB hC hO hW ha hop hg (by omega) hQ (fun f' r h1 h2 h3 h4 => ?_) _ _ _ _ _ _ _ _ _⟩
    exact ⟨p, r, g, rfl, h2, h1, h3, h4, rfl, rfl, Nat.le_refl _, fun i p _ h => Or.inl h⟩
  | none =>
    have hv : va_rf (g a) = .null := by rw [hg]; rfl
    have hnp := nul_pos ha hg
    have e1 : (16 = n) = False := eq_false (by omega)
    have e2 : (17 = n) = False := eq_false (by omega)
    have e3 : (n = 17) = False := eq_false (by omega)
    refine wp_sound (by rw [hi]; exact ok_X7_from) (hd := [23, 53, 69, 94]) 400 _ _ _ _ _ _ ?_
    simp only [wp, stp, List.mem_cons, List.not_mem_nil, Nat.reduceEqDiff, or_false, or_self, false_or, or_true, true_or, Nat.reduceAdd, ↓reduceIte, List.getElem?_cons_zero, List.getElem?_cons_succ, nthV, List.set_cons_zero, List.set_cons_succ, noL, popA, catS, Value.category, List.length_cons, List.length_nil, Nat.reduceLT, Nat.reduceLeDiff, true_and, and_true, one0, zer1, imp_t, imp_f, ofN_nI, sdead, f20, f21, not_true_eq_false, upC_ap, retC, fitC, isRefT, Option.toList_some, Option.toList_none, List.cons_append, List.nil_append, Nat.lt_add_one, Nat.zero_lt_succ, Nat.le_refl, Nat.add_zero, Nat.zero_add, Nat.one_ne_zero, Nat.zero_ne_one, Nat.lt_irrefl, List.length_set, fa_X7_from, hi, hd, hQ, mr_X7_from, w1, w2, w3, hcl, hv, c100, c100n, e1, e2, e3, va_up]
    try simp only [m1f]
    try simp (disch := omega) only [nI_leI, nI_ltI, nI_eq, nI_clamp, vin_nI, nI_1, fa_lit, nI_add, nI_rm3, nI_rm2, pk_rem, pk_mul, pk_sub, pk_div, nI_eM, nI_Me, nI_pM, nI_pMz, nI_pM0, M1_lt, M1_le, nI_ltM, nI_leM, i8_nI, true_and, and_true, false_implies, true_implies, not_false_eq_true, not_true_eq_false, ne_eq, implies_true, Nat.not_lt_zero, Nat.zero_le]
    try simp only [m1u]
    have hf1 : ∀ x, ¬ x = n → ¬ x = 17 → upC (upC f n (cB 100 (fun _ => 0))) 17 (cQ 100 (va_up g a (some n))) x = f x := fun x h1 h2 => by rw [upC_ne _ _ h2, upC_ne _ _ h1]
    have hnu := nul_up (p := n) ha hg
    refine ⟨ha, by omega, by omega, ha, (show n < 1000000 by omega), from23_16 hi hd hd1 hG hB (g := va_up g a (some n)) (k := k) (hC.off (fun k h1 h2 => hf1 k (by omega) (by omega))) ⟨by rw [hf1 _ (by omega) (by omega)]; exact hO.1, by rw [hf1 _ (by omega) (by omega)]; exact hO.2⟩ ⟨sg, qq, by rw [hf1 _ (by omega) (by omega)]; exact w1, upC_self _ _ _, by rw [hf1 _ (by omega) (by omega)]; exact w3, by rw [hf1 _ (by omega) (by omega)]; exact w4, w5, fun i hi' => ⟨(w6 i hi').1, fun h => (w6 i hi').2 (by
      by_cases e : i = a
      · subst e; exact hg
      · rw [va_up, if_neg e] at h; exact h)⟩, fun i hi' p hp => ?_, fun i j p h1 h2 h3 h4 => ?_⟩ ha hop (by simp [va_up]) (by omega) hQ (fun f' r h1 h2 h3 h4 => ?_) _ _ _ _ _ _ _ _ _⟩
    · by_cases e : i = a
      · subst e
        rw [va_up, if_pos rfl] at hp
        cases hp
        exact ⟨h49, by omega, fun _ => 0, by rw [upC_ne _ _ (by omega), upC_self], fun hs => absurd hs ((w6 i hi').2 hg)⟩
      · rw [va_up, if_neg e] at hp
        obtain ⟨b1, b2, r, b3, b4⟩ := w7 i hi' p hp
        exact ⟨b1, by omega, r, by rw [hf1 _ (by omega) (by omega)]; exact b3, b4⟩
    · by_cases e1 : i = a <;> by_cases e2 : j = a
      · omega
      · subst e1
        rw [va_up, if_pos rfl] at h3
        rw [va_up, if_neg e2] at h4
        cases h3
        have := (w7 j h2 n h4).2.1; omega
      · subst e2
        rw [va_up, if_pos rfl] at h4
        rw [va_up, if_neg e1] at h3
        cases h4
        have := (w7 i h1 n h3).2.1; omega
      · rw [va_up, if_neg e1] at h3
        rw [va_up, if_neg e2] at h4
        exact w8 i j p h1 h2 h3 h4
    · refine ⟨n, r, va_up g a (some n), rfl, h2, h1, h3, ⟨fun x hx hn => ?_, fun x hx1 hx2 hx3 => ?_, fun x hx => ?_⟩, by omega, by omega, by omega, fun i p hi' h => ?_⟩
      · rw [h4.1 x hx hn, hf1 x (by omega) (fun h => hn (Or.inl h))]
      · rw [h4.2.1 x hx1 (by omega) (fun i hi' h => ?_), hf1 x (by omega) (by omega)]
        by_cases e : i = a
        · subst e; rw [va_up, if_pos rfl] at h; cases h; omega
        · rw [va_up, if_neg e] at h; exact hx3 i hi' h
      · rw [h4.2.2 x hx, hf1 x (by omega) (by omega)]
      · by_cases e : i = a
        · subst e; rw [va_up, if_pos rfl] at h; cases h; exact Or.inr (Nat.le_refl _)
        · rw [va_up, if_neg e] at h; exact Or.inl h
theorem t_forget_16 (hG : Ok G) (hW : WyR S 0 16 f n g k) (hk : k + 1 < 100000) (S' : Sta) : Tr G d 86 [.ref 16] n z f (fun v n' z' f' => v = none ∧ n' = n ∧ z' = z ∧ WyR S' 0 16 f' n g (k + 1) ∧ ∀ x, ¬ x = 16 → f' x = f x) := by
  obtain ⟨sg, qq, w1, w2, w3, w4, w5, w6, w7, w8⟩ := id hW
  refine Tr.of2 (ls0 := [.ref 16]) hG mo_X7_forget (Nat.le_of_ble_eq_true rfl) rfl ?_
  intro X hi hd hXn hXz hXf hQ
  refine wp_sound (by rw [hi]; exact ok_X7_forget) (hd := []) 400 _ _ _ _ _ _ ?_
  simp only [wp, stp, List.mem_cons, List.not_mem_nil, Nat.reduceEqDiff, or_false, or_self, false_or, or_true, true_or, Nat.reduceAdd, ↓reduceIte, List.getElem?_cons_zero, List.getElem?_cons_succ, nthV, List.set_cons_zero, List.set_cons_succ, noL, popA, catS, Value.category, List.length_cons, List.length_nil, Nat.reduceLT, Nat.reduceLeDiff, true_and, and_true, one0, zer1, imp_t, imp_f, ofN_nI, sdead, f20, f21, not_true_eq_false, upC_ap, retC, fitC, isRefT, Option.toList_some, Option.toList_none, List.cons_append, List.nil_append, Nat.lt_add_one, Nat.zero_lt_succ, Nat.le_refl, Nat.add_zero, Nat.zero_add, Nat.one_ne_zero, Nat.zero_ne_one, Nat.lt_irrefl, List.length_set, fa_X7_forget, hi, hd, hQ, mr_X7_forget, w1]
  try simp only [m1f]
  try simp (disch := omega) only [nI_leI, nI_ltI, nI_eq, nI_clamp, vin_nI, nI_1, fa_lit, nI_add, nI_rm3, nI_rm2, pk_rem, pk_mul, pk_sub, pk_div, nI_eM, nI_Me, nI_pM, nI_pMz, nI_pM0, M1_lt, M1_le, nI_ltM, nI_leM, i8_nI, true_and, and_true, false_implies, true_implies, not_false_eq_true, not_true_eq_false, ne_eq, implies_true, Nat.not_lt_zero, Nat.zero_le]
  try simp only [m1u]
  have hne : ∀ i, i < 100 → ¬ sg i = nI (k + 1) := fun i hi' h => by
    obtain ⟨⟨j, h1, h2⟩, -⟩ := w6 i hi'
    rw [h2, nI_eq (by omega) (by omega)] at h
    omega
  have hx : ∀ x c, ¬ x = 16 → upC f 16 c x = f x := fun x c h => upC_ne _ _ h
  refine ⟨⟨sg, qq, upC_self _ _ _, by rw [hx _ _ (by omega)]; exact w2, by rw [hx _ _ (by omega)]; exact w3, by rw [hx _ _ (by omega)]; exact w4, hk, fun i hi' => ?_, fun i hi' p hp => ?_, w8⟩, fun x h => hx x _ h⟩
  · obtain ⟨⟨j, h1, h2⟩, -⟩ := w6 i hi'
    exact ⟨⟨j, by omega, h2⟩, fun _ => hne i hi'⟩
  · obtain ⟨b1, b2, r, b3, b4⟩ := w7 i hi' p hp
    exact ⟨b1, b2, r, by rw [hx _ _ (by omega)]; exact b3, fun h => absurd h (hne i hi')⟩
end From2
