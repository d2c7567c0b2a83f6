-- the king: sums, the best place
set_option maxRecDepth 100000
set_option maxHeartbeats 4000000
theorem ite_min {a b : Nat} [Decidable (a < b)] : (if a < b then nI a else nI b) = nI (min b a) := by
  by_cases h : a < b
  · rw [if_pos h]; congr 1; omega
  · rw [if_neg h]; congr 1; omega
theorem max0 {a b : Nat} (ha : a < 1073741824) (hb : b < 1073741824) [Decidable (nI 0 < nI a - nI b)] : (if nI 0 < nI a - nI b then nI a - nI b else nI 0) = nI (a - b) := by
  by_cases h : b ≤ a
  · have e : nI a - nI b = nI (a - b) := pk_sub h
    simp only [e]
    by_cases h2 : nI 0 < nI (a - b)
    · rw [if_pos h2]
    · rw [if_neg h2]
      rw [nI_ltI (by omega) (by omega)] at h2
      congr 1; omega
  · have e : nI a - nI b < nI 0 := pk_sneg hb (by omega)
    rw [if_neg (fun q => by rw [Int32.lt_iff_toInt_lt] at q e; omega)]
    congr 1; omega
def smF (F : Nat → Nat) : Nat → Nat
  | 0 => 0
  | k + 1 => smF F k + F k
theorem smF_le {F : Nat → Nat} {b : Nat} (h : ∀ o, F o ≤ b) : ∀ k, smF F k ≤ k * b
  | 0 => by simp [smF]
  | k + 1 => by rw [smF, Nat.succ_mul]; exact Nat.add_le_add (smF_le h k) (h k)
theorem smF_cong {F F' : Nat → Nat} : ∀ {k : Nat}, (∀ o, o < k → F o = F' o) → smF F k = smF F' k
  | 0, _ => rfl
  | k + 1, h => by rw [smF, smF, smF_cong (fun o ho => h o (by omega)), h k (by omega)]
noncomputable def allN (S : Sta) (L : Lw) : Nat := smF (pyN S L 1) (tn S)
noncomputable def famF (S : Sta) (L : Lw) (t o : Nat) : Nat := if o = t ∨ kiS S o t then pyN S L 1 o else 0
noncomputable def famN (S : Sta) (L : Lw) (t : Nat) : Nat := smF (famF S L t) (tn S)
theorem pyN_le (S : Sta) (L : Lw) (bs : Int32) (t : Nat) : pyN S L bs t ≤ 9999 := payF_le _ _ _ _ _ _
theorem famF_le (S : Sta) (L : Lw) (t o : Nat) : famF S L t o ≤ 9999 := by
  unfold famF; split
  · exact pyN_le _ _ _ _
  · omega
/-- nobody is gone -/
def NG (S : Sta) : Prop := ∀ t, t < tn S → ¬ S 2 t = -1
noncomputable def amx (cand : Nat → Prop) (val : Nat → Nat) : Nat → Option (Nat × Nat)
  | 0 => none
  | k + 1 => @ite _ (cand k ∧ ∀ q, amx cand val k = some q → q.2 < val k) (Classical.propDecidable _) (some (k, val k)) (amx cand val k)
theorem amx_yes {cand : Nat → Prop} {val : Nat → Nat} {k : Nat} (h : cand k) (h2 : ∀ q, amx cand val k = some q → q.2 < val k) : amx cand val (k + 1) = some (k, val k) := by
  rw [amx, if_pos ⟨h, h2⟩]
theorem amx_no {cand : Nat → Prop} {val : Nat → Nat} {k : Nat} (h : cand k → ∃ q, amx cand val k = some q ∧ val k ≤ q.2) : amx cand val (k + 1) = amx cand val k := by
  rw [amx, if_neg (fun z => by obtain ⟨q, h1, h2⟩ := h z.1; have := z.2 q h1; omega)]
theorem amx_skip {cand : Nat → Prop} {val : Nat → Nat} {i : Nat} : ∀ j, i ≤ j → (∀ c, i ≤ c → c < j → ¬ cand c) → amx cand val j = amx cand val i
  | 0, h, _ => by rw [show i = 0 by omega]
  | j + 1, h, hs => by
    by_cases e : i = j + 1
    · rw [e]
    · rw [amx_no (fun q => absurd q (hs j (by omega) (by omega)))]
      exact amx_skip j (by omega) (fun c h1 h2 => hs c h1 (by omega))
theorem amx_in {cand : Nat → Prop} {val : Nat → Nat} : ∀ {k : Nat} {q : Nat × Nat}, amx cand val k = some q → q.1 < k ∧ cand q.1 ∧ q.2 = val q.1
  | 0, q, h => by rw [amx] at h; cases h
  | k + 1, q, h => by
    by_cases e : cand k ∧ ∀ q, amx cand val k = some q → q.2 < val k
    · rw [amx, if_pos e] at h
      cases h
      exact ⟨Nat.lt_succ_self _, e.1, rfl⟩
    · rw [amx, if_neg e] at h
      obtain ⟨h1, h2⟩ := amx_in h
      exact ⟨by omega, h2⟩
def mst (r : Option (Nat × Nat)) : Int32 := match r with | none => -1 | some q => nI q.2
def bye (h : Nat) (r : Option (Nat × Nat)) : Int32 := match r with | none => nI h | some q => nI q.1
abbrev csN (S : Sta) (t c : Nat) : Prop := csS S (nI c) (nI t) (S 3 t)
def cdR (S : Sta) (t R h c : Nat) : Prop := csN S t c ∧ (R = 10 ∨ c = h ∨ aj4 h c)
noncomputable def fsb (S : Sta) (L : Lw) (t R h : Nat) : Option (Nat × Nat) := amx (cdR S t R h) (pyC S L 1 t) 100
theorem gr_gs {S : Sta} (hB : Bd S) {c : Nat} (hc : c < 100) : grS S (nI c) ↔ gsN S c := by
  obtain ⟨-, -, wd, ht, e0, e1, hw1, hw2, hh1, hh2⟩ := hB
  show (((¬ nI c < 0 ∧ ¬ 100 ≤ nI c) ∧ ¬ S 0 0 ≤ nI c - nI c / 10 * 10 ∧ ¬ S 0 1 ≤ nI c / 10) ∧ S 1 (nI c).toNatClampNeg = 0) ↔ _
  unfold gsN wdt hgt
  rw [e0, e1, show (0 : Int32) = nI 0 from rfl, show (100 : Int32) = nI 100 from rfl, show (10 : Int32) = nI 10 from rfl, nI_clamp (by omega), nI_clamp (by omega), nI_clamp (by omega), nI_ltI (by omega) (by omega), nI_leI (by omega) (by omega), pk_rem (by omega) (by omega) (by omega), pk_div (by omega) (by omega) (by omega), nI_leI (by omega) (by omega), nI_leI (by omega) (by omega)]
  constructor
  · rintro ⟨⟨h1, h2, h3⟩, h4⟩; exact ⟨⟨hc, by omega, by omega⟩, h4⟩
  · rintro ⟨⟨h1, h2, h3⟩, h4⟩; exact ⟨⟨⟨by omega, by omega⟩, by omega, by omega⟩, h4⟩
section King3
variable {G : Gam} {d n z lp N Z K t c : Nat} {f : Mf} {S : Sta} {L : Lw}
abbrev FK : List Nat := [13, 14, 15, 20, 21]
theorem FRM.k {f f' : Mf} {n : Nat} (h : FRM [12 + 1, 12 + 2, 12 + 3, 20, 20 + 1] f n f') : FRM FK f n f' := h
theorem t_farOf (hG : Ok G) (hd1 : 4 ≤ d) (hB : Bd S) (hW : CW S L lp N Z K f n z) (hV : VB S) {bY : Int32} (hk : KB 20 12 f bY) (ht : t < tn S) (htn : ¬ S 2 t = -1) : Tr G d 37 [.ref 20, .int (nI t)] n z f (fun v n' z' f' => v = some (.int (nI (min (fkN S 1 t) (faA S 1 t (S 2 t).toNatClampNeg)))) ∧ CW S L lp N Z K f' n' z' ∧ KB 20 12 f' bY ∧ FRM FK f n f' ∧ n ≤ n') := by
  obtain ⟨kn0, fk0, fa0, ne0, hk0⟩ := id hk
  obtain ⟨⟨b1, b2⟩, ⟨-, b4⟩, -⟩ := id hB
  obtain ⟨y, hy1, hy2⟩ := hV.tent ht htn
  have hy100 := hy1.1.1
  have hcy : (nI y).toNatClampNeg = y := nI_clamp (by omega)
  unfold KV at hk0
  refine Tr.of2 (ls0 := [.ref 20, .int (nI t)]) hG mo_X2_farOf (Nat.le_of_ble_eq_true rfl) rfl ?_
  intro X hi hd hXn hXz hXf hQ
  refine wp_sound (by rw [hi]; exact ok_X2_farOf) (hd := [5, 19]) 400 _ _ _ _ _ _ ?_
  simp only [wp, stp, List.mem_cons, List.not_mem_nil, Nat.reduceEqDiff, or_false, or_self, false_or, or_true, true_or, Nat.reduceAdd, ↓reduceIte, List.getElem?_cons_zero, List.getElem?_cons_succ, nthV, List.set_cons_zero, List.set_cons_succ, noL, popA, catS, Value.category, List.length_cons, List.length_nil, Nat.reduceLT, Nat.reduceLeDiff, true_and, and_true, one0, zer1, imp_t, imp_f, ofN_nI, sdead, f20, f21, not_true_eq_false, upC_ap, upC_upC, retC, fitC, isRefT, Option.toList_some, Option.toList_none, List.cons_append, List.nil_append, Nat.lt_add_one, Nat.zero_lt_succ, Nat.le_refl, Nat.add_zero, Nat.zero_add, Nat.one_ne_zero, Nat.zero_ne_one, Nat.lt_irrefl, List.length_set, fa_X2_farOf, hi, hd, hQ, mr_X2_farOf, hk0]
  try simp only [m1f]
  try simp (disch := omega) only [nmod, nI_leI, nI_ltI, nI_eq, nI_clamp, vin_nI, nI_1, fa_lit, nI_add, nI_rm3, nI_rm2, pk_rem, pk_mul, pk_sub, pk_div, nI_eM, nI_Me, nI_pM, nI_pMz, nI_pM0, M1_lt, M1_le, nI_ltM, nI_leM, i8_nI, true_and, and_true, false_implies, true_implies, not_false_eq_true, not_true_eq_false, ne_eq, implies_true, Nat.not_lt_zero, Nat.zero_le, ite_min, max0, Nat.reduceLT, Nat.reduceLeDiff, Nat.reduceEqDiff, Nat.reduceAdd, Nat.reduceMul]
  try simp only [m1u]
  refine ⟨by omega, _, t_measureKin_20 hG (by omega) hB hW hV hk ht, ?_⟩
  rintro v n1 z1 f1 ⟨rfl, hW1, ⟨fa1, ne1, hk1⟩, hF1, hn1⟩
  obtain ⟨c1, -, ya, -, -, -, -, -, -, -, -, c3, c3', -⟩ := id hW1.1
  have hk1' := hk1
  unfold KV at hk1
  refine wp_sound (by rw [hi]; exact ok_X2_farOf) (hd := [5, 19]) 400 _ _ _ _ _ _ ?_
  simp only [wp, stp, List.mem_cons, List.not_mem_nil, Nat.reduceEqDiff, or_false, or_self, false_or, or_true, true_or, Nat.reduceAdd, ↓reduceIte, List.getElem?_cons_zero, List.getElem?_cons_succ, nthV, List.set_cons_zero, List.set_cons_succ, noL, popA, catS, Value.category, List.length_cons, List.length_nil, Nat.reduceLT, Nat.reduceLeDiff, true_and, and_true, one0, zer1, imp_t, imp_f, ofN_nI, sdead, f20, f21, not_true_eq_false, upC_ap, upC_upC, retC, fitC, isRefT, Option.toList_some, Option.toList_none, List.cons_append, List.nil_append, Nat.lt_add_one, Nat.zero_lt_succ, Nat.le_refl, Nat.add_zero, Nat.zero_add, Nat.one_ne_zero, Nat.zero_ne_one, Nat.lt_irrefl, List.length_set, fa_X2_farOf, hi, hd, hQ, mr_X2_farOf, hk1, c1, c3]
  try simp only [m1f]
  try simp (disch := omega) only [nmod, nI_leI, nI_ltI, nI_eq, nI_clamp, vin_nI, nI_1, fa_lit, nI_add, nI_rm3, nI_rm2, pk_rem, pk_mul, pk_sub, pk_div, nI_eM, nI_Me, nI_pM, nI_pMz, nI_pM0, M1_lt, M1_le, nI_ltM, nI_leM, i8_nI, true_and, and_true, false_implies, true_implies, not_false_eq_true, not_true_eq_false, ne_eq, implies_true, Nat.not_lt_zero, Nat.zero_le, ite_min, max0, Nat.reduceLT, Nat.reduceLeDiff, Nat.reduceEqDiff, Nat.reduceAdd, Nat.reduceMul]
  try simp only [m1u]
  rw [c3' t ht, hy2]
  refine ⟨by omega, by omega, _, t_measureAt_20 hG (by omega) hB hW1 hV hk1' (mnF_le _ _) (by omega) hy1, ?_⟩
  rintro v n2 z2 f2 ⟨rfl, hW2, hk2, hF2, hn2⟩
  have hk2' := hk2
  unfold KV at hk2
  refine wp_sound (by rw [hi]; exact ok_X2_farOf) (hd := [5, 19]) 400 _ _ _ _ _ _ ?_
  simp only [wp, stp, List.mem_cons, List.not_mem_nil, Nat.reduceEqDiff, or_false, or_self, false_or, or_true, true_or, Nat.reduceAdd, ↓reduceIte, List.getElem?_cons_zero, List.getElem?_cons_succ, nthV, List.set_cons_zero, List.set_cons_succ, noL, popA, catS, Value.category, List.length_cons, List.length_nil, Nat.reduceLT, Nat.reduceLeDiff, true_and, and_true, one0, zer1, imp_t, imp_f, ofN_nI, sdead, f20, f21, not_true_eq_false, upC_ap, upC_upC, retC, fitC, isRefT, Option.toList_some, Option.toList_none, List.cons_append, List.nil_append, Nat.lt_add_one, Nat.zero_lt_succ, Nat.le_refl, Nat.add_zero, Nat.zero_add, Nat.one_ne_zero, Nat.zero_ne_one, Nat.lt_irrefl, List.length_set, fa_X2_farOf, hi, hd, hQ, mr_X2_farOf, hk2]
  refine ⟨by rw [hy2, hcy], hW2, ⟨_, _, _, _, hk2'⟩, (FRM.trans hF1 hn1 hF2).mono (fun x hx => by simp at hx ⊢; omega), by omega⟩
theorem t_allPays (hG : Ok G) (hd1 : 5 ≤ d) (hB : Bd S) (hW : CW S L lp N Z K f n z) (hV : VB S) (hN : NG S) {bY : Int32} (hk : KB 20 12 f bY) : Tr G d 40 [.ref 20] n z f (fun v n' z' f' => v = some (.int (nI (allN S L))) ∧ CW S L lp N Z K f' n' z' ∧ KB 20 12 f' bY ∧ FRM FK f n f' ∧ n ≤ n') := by
  obtain ⟨⟨b1, b2⟩, ⟨-, b4⟩, -⟩ := id hB
  refine Tr.of2 (ls0 := [.ref 20, dead, dead]) hG mo_X2_allPays (Nat.le_of_ble_eq_true rfl) rfl ?_
  intro X hi hd hXn hXz hXf hQ
  have loop : ∀ k' o n' z' g, o + k' = tn S → CW S L lp N Z K g n' z' → KB 20 12 g bY → FRM FK f n g → n ≤ n' → V G X 4 [.ref 20, .int (nI (smF (pyN S L 1) o)), .int (nI o)] [] n' z' g := by
    intro k'
    induction k' with
    | zero =>
      intro o n' z' g ho hW' hk' hF' hn'
      have c1 := hW'.1.1
      obtain ⟨kn0, fk0, fa0, ne0, hk0⟩ := id hk'
      unfold KV at hk0
      have : o = tn S := by omega
      subst this
      refine wp_sound (by rw [hi]; exact ok_X2_allPays) (hd := [4, 21]) 400 _ _ _ _ _ _ ?_
      simp only [wp, stp, List.mem_cons, List.not_mem_nil, Nat.reduceEqDiff, or_false, or_self, false_or, or_true, true_or, Nat.reduceAdd, ↓reduceIte, List.getElem?_cons_zero, List.getElem?_cons_succ, nthV, List.set_cons_zero, List.set_cons_succ, noL, popA, catS, Value.category, List.length_cons, List.length_nil, Nat.reduceLT, Nat.reduceLeDiff, true_and, and_true, one0, zer1, imp_t, imp_f, ofN_nI, sdead, f20, f21, not_true_eq_false, upC_ap, upC_upC, retC, fitC, isRefT, Option.toList_some, Option.toList_none, List.cons_append, List.nil_append, Nat.lt_add_one, Nat.zero_lt_succ, Nat.le_refl, Nat.add_zero, Nat.zero_add, Nat.one_ne_zero, Nat.zero_ne_one, Nat.lt_irrefl, List.length_set, fa_X2_allPays, hi, hd, hQ, mr_X2_allPays, hk0, c1, b1]
      exact ⟨fun _ => ⟨rfl, hW', hk', hF', hn'⟩, fun h => absurd (Int32.le_refl _) h⟩
    | succ k' ih =>
      intro o n' z' g ho hW' hk' hF' hn'
      have c1 := hW'.1.1
      obtain ⟨kn0, fk0, fa0, ne0, hk0⟩ := id hk'
      unfold KV at hk0
      obtain ⟨A, hA⟩ : ∃ A, A = smF (pyN S L 1) o := ⟨_, rfl⟩
      rw [← hA]
      refine wp_sound (by rw [hi]; exact ok_X2_allPays) (hd := [4, 21]) 400 _ _ _ _ _ _ ?_
      simp only [wp, stp, List.mem_cons, List.not_mem_nil, Nat.reduceEqDiff, or_false, or_self, false_or, or_true, true_or, Nat.reduceAdd, ↓reduceIte, List.getElem?_cons_zero, List.getElem?_cons_succ, nthV, List.set_cons_zero, List.set_cons_succ, noL, popA, catS, Value.category, List.length_cons, List.length_nil, Nat.reduceLT, Nat.reduceLeDiff, true_and, and_true, one0, zer1, imp_t, imp_f, ofN_nI, sdead, f20, f21, not_true_eq_false, upC_ap, upC_upC, retC, fitC, isRefT, Option.toList_some, Option.toList_none, List.cons_append, List.nil_append, Nat.lt_add_one, Nat.zero_lt_succ, Nat.le_refl, Nat.add_zero, Nat.zero_add, Nat.one_ne_zero, Nat.zero_ne_one, Nat.lt_irrefl, List.length_set, fa_X2_allPays, hi, hd, hQ, mr_X2_allPays, hk0, c1, b1]
      try simp only [m1f]
      try simp (disch := omega) only [nmod, nI_leI, nI_ltI, nI_eq, nI_clamp, vin_nI, nI_1, fa_lit, nI_add, nI_rm3, nI_rm2, pk_rem, pk_mul, pk_sub, pk_div, nI_eM, nI_Me, nI_pM, nI_pMz, nI_pM0, M1_lt, M1_le, nI_ltM, nI_leM, i8_nI, true_and, and_true, false_implies, true_implies, not_false_eq_true, not_true_eq_false, ne_eq, implies_true, Nat.not_lt_zero, Nat.zero_le, ite_min, max0, Nat.reduceLT, Nat.reduceLeDiff, Nat.reduceEqDiff, Nat.reduceAdd, Nat.reduceMul]
      try simp only [m1u]
      refine ⟨fun h => absurd h (by omega), fun _ => ⟨by omega, _, t_payOf_20 hG (by omega) hB hW' hV hk' (by omega) (hN o (by omega)), ?_⟩⟩
      rintro v n1 z1 f1 ⟨rfl, hW1, hk1, hF1, hn1⟩
      refine wp_sound (by rw [hi]; exact ok_X2_allPays) (hd := [4, 21]) 400 _ _ _ _ _ _ ?_
      simp only [wp, stp, List.mem_cons, List.not_mem_nil, Nat.reduceEqDiff, or_false, or_self, false_or, or_true, true_or, Nat.reduceAdd, ↓reduceIte, List.getElem?_cons_zero, List.getElem?_cons_succ, nthV, List.set_cons_zero, List.set_cons_succ, noL, popA, catS, Value.category, List.length_cons, List.length_nil, Nat.reduceLT, Nat.reduceLeDiff, true_and, and_true, one0, zer1, imp_t, imp_f, ofN_nI, sdead, f20, f21, not_true_eq_false, upC_ap, upC_upC, retC, fitC, isRefT, Option.toList_some, Option.toList_none, List.cons_append, List.nil_append, Nat.lt_add_one, Nat.zero_lt_succ, Nat.le_refl, Nat.add_zero, Nat.zero_add, Nat.one_ne_zero, Nat.zero_ne_one, Nat.lt_irrefl, List.length_set, fa_X2_allPays, hi, hd, hQ, mr_X2_allPays]
      try simp only [m1f]
      try simp (disch := omega) only [nmod, nI_leI, nI_ltI, nI_eq, nI_clamp, vin_nI, nI_1, fa_lit, nI_add, nI_rm3, nI_rm2, pk_rem, pk_mul, pk_sub, pk_div, nI_eM, nI_Me, nI_pM, nI_pMz, nI_pM0, M1_lt, M1_le, nI_ltM, nI_leM, i8_nI, true_and, and_true, false_implies, true_implies, not_false_eq_true, not_true_eq_false, ne_eq, implies_true, Nat.not_lt_zero, Nat.zero_le, ite_min, max0, Nat.reduceLT, Nat.reduceLeDiff, Nat.reduceEqDiff, Nat.reduceAdd, Nat.reduceMul]
      try simp only [m1u]
      have := ih (o + 1) n1 z1 f1 (by omega) hW1 hk1 (hF'.trans hn' hF1) (by omega)
      rw [smF, ← hA] at this
      exact this
  refine wp_sound (by rw [hi]; exact ok_X2_allPays) (hd := [4, 21]) 400 _ _ _ _ _ _ ?_
  simp only [wp, stp, List.mem_cons, List.not_mem_nil, Nat.reduceEqDiff, or_false, or_self, false_or, or_true, true_or, Nat.reduceAdd, ↓reduceIte, List.getElem?_cons_zero, List.getElem?_cons_succ, nthV, List.set_cons_zero, List.set_cons_succ, noL, popA, catS, Value.category, List.length_cons, List.length_nil, Nat.reduceLT, Nat.reduceLeDiff, true_and, and_true, one0, zer1, imp_t, imp_f, ofN_nI, sdead, f20, f21, not_true_eq_false, upC_ap, upC_upC, retC, fitC, isRefT, Option.toList_some, Option.toList_none, List.cons_append, List.nil_append, Nat.lt_add_one, Nat.zero_lt_succ, Nat.le_refl, Nat.add_zero, Nat.zero_add, Nat.one_ne_zero, Nat.zero_ne_one, Nat.lt_irrefl, List.length_set, fa_X2_allPays, hi, hd, hQ, mr_X2_allPays]
  try simp only [m1f]
  try simp (disch := omega) only [nmod, nI_leI, nI_ltI, nI_eq, nI_clamp, vin_nI, nI_1, fa_lit, nI_add, nI_rm3, nI_rm2, pk_rem, pk_mul, pk_sub, pk_div, nI_eM, nI_Me, nI_pM, nI_pMz, nI_pM0, M1_lt, M1_le, nI_ltM, nI_leM, i8_nI, true_and, and_true, false_implies, true_implies, not_false_eq_true, not_true_eq_false, ne_eq, implies_true, Nat.not_lt_zero, Nat.zero_le, ite_min, max0, Nat.reduceLT, Nat.reduceLeDiff, Nat.reduceEqDiff, Nat.reduceAdd, Nat.reduceMul]
  try simp only [m1u]
  exact loop (tn S) 0 n z f (by omega) hW hk (FRM.refl _ _ _) (Nat.le_refl _)
theorem t_familyPays (hG : Ok G) (hd1 : 5 ≤ d) (hB : Bd S) (hW : CW S L lp N Z K f n z) (hV : VB S) (hN : NG S) {bY : Int32} (hk : KB 20 12 f bY) (ht : t < tn S) : Tr G d 41 [.ref 20, .int (nI t)] n z f (fun v n' z' f' => v = some (.int (nI (famN S L t))) ∧ CW S L lp N Z K f' n' z' ∧ KB 20 12 f' bY ∧ FRM FK f n f' ∧ n ≤ n') := by
  obtain ⟨⟨b1, b2⟩, ⟨-, b4⟩, -⟩ := id hB
  refine Tr.of2 (ls0 := [.ref 20, .int (nI t), dead, dead]) hG mo_X2_familyPays (Nat.le_of_ble_eq_true rfl) rfl ?_
  intro X hi hd hXn hXz hXf hQ
  have loop : ∀ k' o n' z' g, o + k' = tn S → CW S L lp N Z K g n' z' → KB 20 12 g bY → FRM FK f n g → n ≤ n' → V G X 4 [.ref 20, .int (nI t), .int (nI (smF (famF S L t) o)), .int (nI o)] [] n' z' g := by
    intro k'
    induction k' with
    | zero =>
      intro o n' z' g ho hW' hk' hF' hn'
      have c1 := hW'.1.1
      obtain ⟨kn0, fk0, fa0, ne0, hk0⟩ := id hk'
      unfold KV at hk0
      have : o = tn S := by omega
      subst this
      refine wp_sound (by rw [hi]; exact ok_X2_familyPays) (hd := [4, 29, 38]) 400 _ _ _ _ _ _ ?_
      simp only [wp, stp, List.mem_cons, List.not_mem_nil, Nat.reduceEqDiff, or_false, or_self, false_or, or_true, true_or, Nat.reduceAdd, ↓reduceIte, List.getElem?_cons_zero, List.getElem?_cons_succ, nthV, List.set_cons_zero, List.set_cons_succ, noL, popA, catS, Value.category, List.length_cons, List.length_nil, Nat.reduceLT, Nat.reduceLeDiff, true_and, and_true, one0, zer1, imp_t, imp_f, ofN_nI, sdead, f20, f21, not_true_eq_false, upC_ap, upC_upC, retC, fitC, isRefT, Option.toList_some, Option.toList_none, List.cons_append, List.nil_append, Nat.lt_add_one, Nat.zero_lt_succ, Nat.le_refl, Nat.add_zero, Nat.zero_add, Nat.one_ne_zero, Nat.zero_ne_one, Nat.lt_irrefl, List.length_set, fa_X2_familyPays, hi, hd, hQ, mr_X2_familyPays, hk0, c1, b1]
      exact ⟨fun _ => ⟨rfl, hW', hk', hF', hn'⟩, fun h => absurd (Int32.le_refl _) h⟩
    | succ k' ih =>
      intro o n' z' g ho hW' hk' hF' hn'
      have c1 := hW'.1.1
      obtain ⟨kn0, fk0, fa0, ne0, hk0⟩ := id hk'
      unfold KV at hk0
      have ih' := fun n1 z1 f1 a b c d => ih (o + 1) n1 z1 f1 (by omega) a b c d
      simp only [smF] at ih'
      obtain ⟨A, hA⟩ : ∃ A, A = smF (famF S L t) o := ⟨_, rfl⟩
      rw [← hA] at ih' ⊢
      have h32 : ∀ n' z' g, CW S L lp N Z K g n' z' → KB 20 12 g bY → FRM FK f n g → n ≤ n' → (o = t ∨ kiS S o t) → V G X 32 [.ref 20, .int (nI t), .int (nI A), .int (nI o)] [] n' z' g := by
        intro n' z' g hW' hk' hF' hn' hq
        obtain ⟨kn0, fk0, fa0, ne0, hk0⟩ := id hk'
        unfold KV at hk0
        refine wp_sound (by rw [hi]; exact ok_X2_familyPays) (hd := [4, 29, 38]) 400 _ _ _ _ _ _ ?_
        simp only [wp, stp, List.mem_cons, List.not_mem_nil, Nat.reduceEqDiff, or_false, or_self, false_or, or_true, true_or, Nat.reduceAdd, ↓reduceIte, List.getElem?_cons_zero, List.getElem?_cons_succ, nthV, List.set_cons_zero, List.set_cons_succ, noL, popA, catS, Value.category, List.length_cons, List.length_nil, Nat.reduceLT, Nat.reduceLeDiff, true_and, and_true, one0, zer1, imp_t, imp_f, ofN_nI, sdead, f20, f21, not_true_eq_false, upC_ap, upC_upC, retC, fitC, isRefT, Option.toList_some, Option.toList_none, List.cons_append, List.nil_append, Nat.lt_add_one, Nat.zero_lt_succ, Nat.le_refl, Nat.add_zero, Nat.zero_add, Nat.one_ne_zero, Nat.zero_ne_one, Nat.lt_irrefl, List.length_set, fa_X2_familyPays, hi, hd, hQ, mr_X2_familyPays, hk0]
        try simp only [m1f]
        try simp (disch := omega) only [nmod, nI_leI, nI_ltI, nI_eq, nI_clamp, vin_nI, nI_1, fa_lit, nI_add, nI_rm3, nI_rm2, pk_rem, pk_mul, pk_sub, pk_div, nI_eM, nI_Me, nI_pM, nI_pMz, nI_pM0, M1_lt, M1_le, nI_ltM, nI_leM, i8_nI, true_and, and_true, false_implies, true_implies, not_false_eq_true, not_true_eq_false, ne_eq, implies_true, Nat.not_lt_zero, Nat.zero_le, ite_min, max0, Nat.reduceLT, Nat.reduceLeDiff, Nat.reduceEqDiff, Nat.reduceAdd, Nat.reduceMul]
        try simp only [m1u]
        refine ⟨by omega, _, t_payOf_20 hG (by omega) hB hW' hV hk' (by omega) (hN o (by omega)), ?_⟩
        rintro v n1 z1 f1 ⟨rfl, hW1, hk1, hF1, hn1⟩
        refine wp_sound (by rw [hi]; exact ok_X2_familyPays) (hd := [4, 29, 38]) 400 _ _ _ _ _ _ ?_
        simp only [wp, stp, List.mem_cons, List.not_mem_nil, Nat.reduceEqDiff, or_false, or_self, false_or, or_true, true_or, Nat.reduceAdd, ↓reduceIte, List.getElem?_cons_zero, List.getElem?_cons_succ, nthV, List.set_cons_zero, List.set_cons_succ, noL, popA, catS, Value.category, List.length_cons, List.length_nil, Nat.reduceLT, Nat.reduceLeDiff, true_and, and_true, one0, zer1, imp_t, imp_f, ofN_nI, sdead, f20, f21, not_true_eq_false, upC_ap, upC_upC, retC, fitC, isRefT, Option.toList_some, Option.toList_none, List.cons_append, List.nil_append, Nat.lt_add_one, Nat.zero_lt_succ, Nat.le_refl, Nat.add_zero, Nat.zero_add, Nat.one_ne_zero, Nat.zero_ne_one, Nat.lt_irrefl, List.length_set, fa_X2_familyPays, hi, hd, hQ, mr_X2_familyPays]
        try simp only [m1f]
        try simp (disch := omega) only [nmod, nI_leI, nI_ltI, nI_eq, nI_clamp, vin_nI, nI_1, fa_lit, nI_add, nI_rm3, nI_rm2, pk_rem, pk_mul, pk_sub, pk_div, nI_eM, nI_Me, nI_pM, nI_pMz, nI_pM0, M1_lt, M1_le, nI_ltM, nI_leM, i8_nI, true_and, and_true, false_implies, true_implies, not_false_eq_true, not_true_eq_false, ne_eq, implies_true, Nat.not_lt_zero, Nat.zero_le, ite_min, max0, Nat.reduceLT, Nat.reduceLeDiff, Nat.reduceEqDiff, Nat.reduceAdd, Nat.reduceMul]
        try simp only [m1u]
        have := ih' n1 z1 f1 hW1 hk1 (hF'.trans hn' hF1) (by omega)
        rw [show famF S L t o = pyN S L 1 o from if_pos hq] at this
        exact this
      have h40 : ∀ n' z' g, CW S L lp N Z K g n' z' → KB 20 12 g bY → FRM FK f n g → n ≤ n' → ¬ (o = t ∨ kiS S o t) → V G X 40 [.ref 20, .int (nI t), .int (nI A), .int (nI o)] [] n' z' g := by
        intro n' z' g hW' hk' hF' hn' hq
        refine wp_sound (by rw [hi]; exact ok_X2_familyPays) (hd := [4, 29, 38]) 400 _ _ _ _ _ _ ?_
        simp only [wp, stp, List.mem_cons, List.not_mem_nil, Nat.reduceEqDiff, or_false, or_self, false_or, or_true, true_or, Nat.reduceAdd, ↓reduceIte, List.getElem?_cons_zero, List.getElem?_cons_succ, nthV, List.set_cons_zero, List.set_cons_succ, noL, popA, catS, Value.category, List.length_cons, List.length_nil, Nat.reduceLT, Nat.reduceLeDiff, true_and, and_true, one0, zer1, imp_t, imp_f, ofN_nI, sdead, f20, f21, not_true_eq_false, upC_ap, upC_upC, retC, fitC, isRefT, Option.toList_some, Option.toList_none, List.cons_append, List.nil_append, Nat.lt_add_one, Nat.zero_lt_succ, Nat.le_refl, Nat.add_zero, Nat.zero_add, Nat.one_ne_zero, Nat.zero_ne_one, Nat.lt_irrefl, List.length_set, fa_X2_familyPays, hi, hd, hQ, mr_X2_familyPays]
        try simp only [m1f]
        try simp (disch := omega) only [nmod, nI_leI, nI_ltI, nI_eq, nI_clamp, vin_nI, nI_1, fa_lit, nI_add, nI_rm3, nI_rm2, pk_rem, pk_mul, pk_sub, pk_div, nI_eM, nI_Me, nI_pM, nI_pMz, nI_pM0, M1_lt, M1_le, nI_ltM, nI_leM, i8_nI, true_and, and_true, false_implies, true_implies, not_false_eq_true, not_true_eq_false, ne_eq, implies_true, Nat.not_lt_zero, Nat.zero_le, ite_min, max0, Nat.reduceLT, Nat.reduceLeDiff, Nat.reduceEqDiff, Nat.reduceAdd, Nat.reduceMul]
        try simp only [m1u]
        have := ih' n' z' g hW' hk' hF' hn'
        rw [show famF S L t o = 0 from if_neg hq] at this
        exact this
      refine wp_sound (by rw [hi]; exact ok_X2_familyPays) (hd := [4, 29, 32, 38, 40]) 400 _ _ _ _ _ _ ?_
      simp only [wp, stp, List.mem_cons, List.not_mem_nil, Nat.reduceEqDiff, or_false, or_self, false_or, or_true, true_or, Nat.reduceAdd, ↓reduceIte, List.getElem?_cons_zero, List.getElem?_cons_succ, nthV, List.set_cons_zero, List.set_cons_succ, noL, popA, catS, Value.category, List.length_cons, List.length_nil, Nat.reduceLT, Nat.reduceLeDiff, true_and, and_true, one0, zer1, imp_t, imp_f, ofN_nI, sdead, f20, f21, not_true_eq_false, upC_ap, upC_upC, retC, fitC, isRefT, Option.toList_some, Option.toList_none, List.cons_append, List.nil_append, Nat.lt_add_one, Nat.zero_lt_succ, Nat.le_refl, Nat.add_zero, Nat.zero_add, Nat.one_ne_zero, Nat.zero_ne_one, Nat.lt_irrefl, List.length_set, fa_X2_familyPays, hi, hd, hQ, mr_X2_familyPays, hk0, c1, b1]
      try simp only [m1f]
      try simp (disch := omega) only [nmod, nI_leI, nI_ltI, nI_eq, nI_clamp, vin_nI, nI_1, fa_lit, nI_add, nI_rm3, nI_rm2, pk_rem, pk_mul, pk_sub, pk_div, nI_eM, nI_Me, nI_pM, nI_pMz, nI_pM0, M1_lt, M1_le, nI_ltM, nI_leM, i8_nI, true_and, and_true, false_implies, true_implies, not_false_eq_true, not_true_eq_false, ne_eq, implies_true, Nat.not_lt_zero, Nat.zero_le, ite_min, max0, Nat.reduceLT, Nat.reduceLeDiff, Nat.reduceEqDiff, Nat.reduceAdd, Nat.reduceMul]
      try simp only [m1u]
      refine ⟨fun h => absurd h (by omega), fun _ => ⟨fun h => h32 _ _ _ hW' hk' hF' hn' (Or.inl h), fun h => ⟨by omega, _, t_areKin hG hW'.1 hB (by omega) (by omega), ?_⟩⟩⟩
      rintro v n1 z1 f1 ⟨rfl, rfl, rfl, rfl⟩
      refine wp_sound (by rw [hi]; exact ok_X2_familyPays) (hd := [4, 29, 32, 38, 40]) 400 _ _ _ _ _ _ ?_
      simp only [wp, stp, List.mem_cons, List.not_mem_nil, Nat.reduceEqDiff, or_false, or_self, false_or, or_true, true_or, Nat.reduceAdd, ↓reduceIte, List.getElem?_cons_zero, List.getElem?_cons_succ, nthV, List.set_cons_zero, List.set_cons_succ, noL, popA, catS, Value.category, List.length_cons, List.length_nil, Nat.reduceLT, Nat.reduceLeDiff, true_and, and_true, one0, zer1, imp_t, imp_f, ofN_nI, sdead, f20, f21, not_true_eq_false, upC_ap, upC_upC, retC, fitC, isRefT, Option.toList_some, Option.toList_none, List.cons_append, List.nil_append, Nat.lt_add_one, Nat.zero_lt_succ, Nat.le_refl, Nat.add_zero, Nat.zero_add, Nat.one_ne_zero, Nat.zero_ne_one, Nat.lt_irrefl, List.length_set, fa_X2_familyPays, hi, hd, hQ, mr_X2_familyPays, bI_0]
      try simp only [m1f]
      try simp (disch := omega) only [nmod, nI_leI, nI_ltI, nI_eq, nI_clamp, vin_nI, nI_1, fa_lit, nI_add, nI_rm3, nI_rm2, pk_rem, pk_mul, pk_sub, pk_div, nI_eM, nI_Me, nI_pM, nI_pMz, nI_pM0, M1_lt, M1_le, nI_ltM, nI_leM, i8_nI, true_and, and_true, false_implies, true_implies, not_false_eq_true, not_true_eq_false, ne_eq, implies_true, Nat.not_lt_zero, Nat.zero_le, ite_min, max0, Nat.reduceLT, Nat.reduceLeDiff, Nat.reduceEqDiff, Nat.reduceAdd, Nat.reduceMul]
      try simp only [m1u]
      exact ⟨fun q => h40 _ _ _ hW' hk' hF' hn' (by rintro (r | r); exact h r; exact q r), fun q => h32 _ _ _ hW' hk' hF' hn' (Or.inr (Decidable.not_not.mp q))⟩
  refine wp_sound (by rw [hi]; exact ok_X2_familyPays) (hd := [4, 29, 38]) 400 _ _ _ _ _ _ ?_
  simp only [wp, stp, List.mem_cons, List.not_mem_nil, Nat.reduceEqDiff, or_false, or_self, false_or, or_true, true_or, Nat.reduceAdd, ↓reduceIte, List.getElem?_cons_zero, List.getElem?_cons_succ, nthV, List.set_cons_zero, List.set_cons_succ, noL, popA, catS, Value.category, List.length_cons, List.length_nil, Nat.reduceLT, Nat.reduceLeDiff, true_and, and_true, one0, zer1, imp_t, imp_f, ofN_nI, sdead, f20, f21, not_true_eq_false, upC_ap, upC_upC, retC, fitC, isRefT, Option.toList_some, Option.toList_none, List.cons_append, List.nil_append, Nat.lt_add_one, Nat.zero_lt_succ, Nat.le_refl, Nat.add_zero, Nat.zero_add, Nat.one_ne_zero, Nat.zero_ne_one, Nat.lt_irrefl, List.length_set, fa_X2_familyPays, hi, hd, hQ, mr_X2_familyPays]
  try simp only [m1f]
  try simp (disch := omega) only [nmod, nI_leI, nI_ltI, nI_eq, nI_clamp, vin_nI, nI_1, fa_lit, nI_add, nI_rm3, nI_rm2, pk_rem, pk_mul, pk_sub, pk_div, nI_eM, nI_Me, nI_pM, nI_pMz, nI_pM0, M1_lt, M1_le, nI_ltM, nI_leM, i8_nI, true_and, and_true, false_implies, true_implies, not_false_eq_true, not_true_eq_false, ne_eq, implies_true, Nat.not_lt_zero, Nat.zero_le, ite_min, max0, Nat.reduceLT, Nat.reduceLeDiff, Nat.reduceEqDiff, Nat.reduceAdd, Nat.reduceMul]
  try simp only [m1u]
  exact loop (tn S) 0 n z f (by omega) hW hk (FRM.refl _ _ _) (Nat.le_refl _)
theorem t_findBest (hG : Ok G) (hd1 : 4 ≤ d) (hB : Bd S) (hW : CW S L lp N Z K f n z) (hV : VB S) {bY : Int32} (hk : KB 20 12 f bY) (ht : t < tn S) {h : Nat} (hh : gsN S h) (eh : S 2 t = nI h) {R : Nat} (hR : R = 10 ∨ R = 1) : Tr G d 42 [.ref 20, .int (nI t), .int (nI R)] n z f (fun v n' z' f' => v = some (.int (mst (fsb S L t R h))) ∧ CW S L lp N Z K f' n' z' ∧ KB 20 12 f' (bye h (fsb S L t R h)) ∧ FRM FK f n f' ∧ n ≤ n') := by
  obtain ⟨kn0, fk0, fa0, ne0, hk0⟩ := id hk
  obtain ⟨⟨b1, b2⟩, ⟨-, b4⟩, wd, hi0, e0, e1, hw1, hw2, hh1, hh2⟩ := id hB
  have ewd : wdt S = wd := by rw [wdt, e0, nI_clamp (by omega)]
  have eht : hgt S = hi0 := by rw [hgt, e1, nI_clamp (by omega)]
  obtain ⟨g1, g2, g3⟩ := id hh.1
  rw [ewd] at g2
  rw [eht] at g3
  have hct : (nI t).toNatClampNeg = t := nI_clamp (by omega)
  obtain ⟨c1, -, ya, fam, -, -, -, -, -, -, -, c3, c3', c4, c4', -⟩ := id hW.1
  unfold KV at hk0
  obtain ⟨cand, hcand⟩ : ∃ cand, cand = cdR S t R h := ⟨_, rfl⟩
  obtain ⟨val, hval⟩ : ∃ val, val = pyC S L 1 t := ⟨_, rfl⟩
  have hfs : fsb S L t R h = amx cand val 100 := by rw [hcand, hval]; rfl
  rw [hfs]
  have hbox : ∀ c, c < 100 → cand c → (h % 10 - R ≤ c % 10 ∧ c % 10 ≤ min (wd - 1) (h % 10 + R)) ∧ h / 10 - R ≤ c / 10 ∧ c / 10 ≤ min (hi0 - 1) (h / 10 + R) := by
    intro c hc hq
    rw [hcand] at hq
    obtain ⟨q1, q2⟩ := hq
    obtain ⟨⟨q3, q4, q5⟩, q6⟩ := (gr_gs hB hc).mp q1.1.1
    rw [ewd] at q4
    rw [eht] at q5
    rcases q2 with q | q | q
    · omega
    · omega
    · unfold aj4 at q; omega
  obtain ⟨x0, hx0⟩ : ∃ x0, x0 = h % 10 - R := ⟨_, rfl⟩
  obtain ⟨x1, hx1⟩ : ∃ x1, x1 = min (wd - 1) (h % 10 + R) := ⟨_, rfl⟩
  obtain ⟨y0, hy0⟩ : ∃ y0, y0 = h / 10 - R := ⟨_, rfl⟩
  obtain ⟨y1, hy1⟩ : ∃ y1, y1 = min (hi0 - 1) (h / 10 + R) := ⟨_, rfl⟩
  rw [← hx0, ← hx1, ← hy0, ← hy1] at hbox
  refine Tr.of2 (ls0 := [.ref 20, .int (nI t), .int (nI R), dead, dead, dead, dead, dead, dead, dead, dead, dead, dead]) hG mo_X2_findBest (Nat.le_of_ble_eq_true rfl) rfl ?_
  intro X hi hd hXn hXz hXf hQ
  have inv : ∀ r n' z' g, (CW S L lp N Z K g n' z' ∧ (∃ fa ne, KV 20 12 g (bye h r) (nI (knN S t)) (nI (fkN S 1 t)) fa ne) ∧ FRM FK f n g ∧ n ≤ n') → True := fun _ _ _ _ _ => trivial
  have h237 : ∀ r n' z' g u8 u9 u10 u11 u12, r = amx cand val 100 → (CW S L lp N Z K g n' z' ∧ (∃ fa ne, KV 20 12 g (bye h r) (nI (knN S t)) (nI (fkN S 1 t)) fa ne) ∧ FRM FK f n g ∧ n ≤ n') → V G X 237 [.ref 20, .int (nI t), .int (nI R), .int (nI (h % 10)), .int (nI (h / 10)), .int (nI x1), .int (nI y1), .int (mst r), u8, u9, u10, u11, u12] [] n' z' g := by
    rintro r n' z' g u8 u9 u10 u11 u12 rfl ⟨q1, ⟨fa, ne, q2⟩, q3, q4⟩
    refine wp_sound (by rw [hi]; exact ok_X2_findBest) (hd := [83, 93, 109, 175, 188, 206]) 400 _ _ _ _ _ _ ?_
    simp only [wp, stp, List.mem_cons, List.not_mem_nil, Nat.reduceEqDiff, or_false, or_self, false_or, or_true, true_or, Nat.reduceAdd, ↓reduceIte, List.getElem?_cons_zero, List.getElem?_cons_succ, nthV, List.set_cons_zero, List.set_cons_succ, noL, popA, catS, Value.category, List.length_cons, List.length_nil, Nat.reduceLT, Nat.reduceLeDiff, true_and, and_true, one0, zer1, imp_t, imp_f, ofN_nI, sdead, f20, f21, not_true_eq_false, upC_ap, upC_upC, retC, fitC, isRefT, Option.toList_some, Option.toList_none, List.cons_append, List.nil_append, Nat.lt_add_one, Nat.zero_lt_succ, Nat.le_refl, Nat.add_zero, Nat.zero_add, Nat.one_ne_zero, Nat.zero_ne_one, Nat.lt_irrefl, List.length_set, fa_X2_findBest, hi, hd, hQ, mr_X2_findBest]
    exact ⟨q1, ⟨_, _, _, _, q2⟩, q3, q4⟩
  have outer : ∀ k' y r n' z' g u9 u10 u11 u12, y0 ≤ y → y + k' = y1 + 1 → r = amx cand val (10 * y) → (CW S L lp N Z K g n' z' ∧ (∃ fa ne, KV 20 12 g (bye h r) (nI (knN S t)) (nI (fkN S 1 t)) fa ne) ∧ FRM FK f n g ∧ n ≤ n') → V G X 93 [.ref 20, .int (nI t), .int (nI R), .int (nI (h % 10)), .int (nI (h / 10)), .int (nI x1), .int (nI y1), .int (mst r), .int (nI y), u9, u10, u11, u12] [] n' z' g := by
    intro k'
    induction k' with
    | zero =>
      intro y r n' z' g u9 u10 u11 u12 hyy hy hr hinv
      have : y = y1 + 1 := by omega
      subst this
      refine wp_sound (by rw [hi]; exact ok_X2_findBest) (hd := [83, 93, 109, 175, 188, 206, 237]) 400 _ _ _ _ _ _ ?_
      simp only [wp, stp, List.mem_cons, List.not_mem_nil, Nat.reduceEqDiff, or_false, or_self, false_or, or_true, true_or, Nat.reduceAdd, ↓reduceIte, List.getElem?_cons_zero, List.getElem?_cons_succ, nthV, List.set_cons_zero, List.set_cons_succ, noL, popA, catS, Value.category, List.length_cons, List.length_nil, Nat.reduceLT, Nat.reduceLeDiff, true_and, and_true, one0, zer1, imp_t, imp_f, ofN_nI, sdead, f20, f21, not_true_eq_false, upC_ap, upC_upC, retC, fitC, isRefT, Option.toList_some, Option.toList_none, List.cons_append, List.nil_append, Nat.lt_add_one, Nat.zero_lt_succ, Nat.le_refl, Nat.add_zero, Nat.zero_add, Nat.one_ne_zero, Nat.zero_ne_one, Nat.lt_irrefl, List.length_set, fa_X2_findBest, hi, hd, hQ, mr_X2_findBest]
      try simp only [m1f]
      try simp (disch := omega) only [nmod, nI_leI, nI_ltI, nI_eq, nI_clamp, vin_nI, nI_1, fa_lit, nI_add, nI_rm3, nI_rm2, pk_rem, pk_mul, pk_sub, pk_div, nI_eM, nI_Me, nI_pM, nI_pMz, nI_pM0, M1_lt, M1_le, nI_ltM, nI_leM, i8_nI, true_and, and_true, false_implies, true_implies, not_false_eq_true, not_true_eq_false, ne_eq, implies_true, Nat.not_lt_zero, Nat.zero_le, ite_min, max0, Nat.reduceLT, Nat.reduceLeDiff, Nat.reduceEqDiff, Nat.reduceAdd, Nat.reduceMul]
      try simp only [m1u]
      refine ⟨fun _ => h237 r _ _ _ _ _ _ _ _ ?_ hinv, fun q => absurd q (by omega)⟩
      rw [hr]
      refine (amx_skip 100 (by omega) (fun c q1 q2 q3 => ?_)).symm
      have := hbox c q2 q3
      omega
    | succ k' ih =>
      intro y r n' z' g u9 u10 u11 u12 hyy hy hr hinv
      have h225 : ∀ x r n' z' g u10 u11 u12, x ≤ x1 → (∀ n' z' g u10 u11 u12, (CW S L lp N Z K g n' z' ∧ (∃ fa ne, KV 20 12 g (bye h r) (nI (knN S t)) (nI (fkN S 1 t)) fa ne) ∧ FRM FK f n g ∧ n ≤ n') → V G X 109 [.ref 20, .int (nI t), .int (nI R), .int (nI (h % 10)), .int (nI (h / 10)), .int (nI x1), .int (nI y1), .int (mst r), .int (nI y), .int (nI (x + 1)), u10, u11, u12] [] n' z' g) → (CW S L lp N Z K g n' z' ∧ (∃ fa ne, KV 20 12 g (bye h r) (nI (knN S t)) (nI (fkN S 1 t)) fa ne) ∧ FRM FK f n g ∧ n ≤ n') → V G X 225 [.ref 20, .int (nI t), .int (nI R), .int (nI (h % 10)), .int (nI (h / 10)), .int (nI x1), .int (nI y1), .int (mst r), .int (nI y), .int (nI x), u10, u11, u12] [] n' z' g := by
        intro x r n' z' g u10 u11 u12 hx hn hinv
        refine wp_sound (by rw [hi]; exact ok_X2_findBest) (hd := [83, 93, 109, 175, 188, 206]) 400 _ _ _ _ _ _ ?_
        simp only [wp, stp, List.mem_cons, List.not_mem_nil, Nat.reduceEqDiff, or_false, or_self, false_or, or_true, true_or, Nat.reduceAdd, ↓reduceIte, List.getElem?_cons_zero, List.getElem?_cons_succ, nthV, List.set_cons_zero, List.set_cons_succ, noL, popA, catS, Value.category, List.length_cons, List.length_nil, Nat.reduceLT, Nat.reduceLeDiff, true_and, and_true, one0, zer1, imp_t, imp_f, ofN_nI, sdead, f20, f21, not_true_eq_false, upC_ap, upC_upC, retC, fitC, isRefT, Option.toList_some, Option.toList_none, List.cons_append, List.nil_append, Nat.lt_add_one, Nat.zero_lt_succ, Nat.le_refl, Nat.add_zero, Nat.zero_add, Nat.one_ne_zero, Nat.zero_ne_one, Nat.lt_irrefl, List.length_set, fa_X2_findBest, hi, hd, hQ, mr_X2_findBest]
        try simp only [m1f]
        try simp (disch := omega) only [nmod, nI_leI, nI_ltI, nI_eq, nI_clamp, vin_nI, nI_1, fa_lit, nI_add, nI_rm3, nI_rm2, pk_rem, pk_mul, pk_sub, pk_div, nI_eM, nI_Me, nI_pM, nI_pMz, nI_pM0, M1_lt, M1_le, nI_ltM, nI_leM, i8_nI, true_and, and_true, false_implies, true_implies, not_false_eq_true, not_true_eq_false, ne_eq, implies_true, Nat.not_lt_zero, Nat.zero_le, ite_min, max0, Nat.reduceLT, Nat.reduceLeDiff, Nat.reduceEqDiff, Nat.reduceAdd, Nat.reduceMul]
        try simp only [m1u]
        exact hn _ _ _ _ _ _ hinv
      have inner : ∀ k' x r n' z' g u10 u11 u12, x0 ≤ x → x + k' = x1 + 1 → r = amx cand val (10 * y + x) → (CW S L lp N Z K g n' z' ∧ (∃ fa ne, KV 20 12 g (bye h r) (nI (knN S t)) (nI (fkN S 1 t)) fa ne) ∧ FRM FK f n g ∧ n ≤ n') → V G X 109 [.ref 20, .int (nI t), .int (nI R), .int (nI (h % 10)), .int (nI (h / 10)), .int (nI x1), .int (nI y1), .int (mst r), .int (nI y), .int (nI x), u10, u11, u12] [] n' z' g := by
        intro k''
        induction k'' with
        | zero =>
          intro x r n' z' g u10 u11 u12 hxx hx hr hinv
          have : x = x1 + 1 := by omega
          subst this
          refine wp_sound (by rw [hi]; exact ok_X2_findBest) (hd := [83, 93, 109, 175, 188, 206]) 400 _ _ _ _ _ _ ?_
          simp only [wp, stp, List.mem_cons, List.not_mem_nil, Nat.reduceEqDiff, or_false, or_self, false_or, or_true, true_or, Nat.reduceAdd, ↓reduceIte, List.getElem?_cons_zero, List.getElem?_cons_succ, nthV, List.set_cons_zero, List.set_cons_succ, noL, popA, catS, Value.category, List.length_cons, List.length_nil, Nat.reduceLT, Nat.reduceLeDiff, true_and, and_true, one0, zer1, imp_t, imp_f, ofN_nI, sdead, f20, f21, not_true_eq_false, upC_ap, upC_upC, retC, fitC, isRefT, Option.toList_some, Option.toList_none, List.cons_append, List.nil_append, Nat.lt_add_one, Nat.zero_lt_succ, Nat.le_refl, Nat.add_zero, Nat.zero_add, Nat.one_ne_zero, Nat.zero_ne_one, Nat.lt_irrefl, List.length_set, fa_X2_findBest, hi, hd, hQ, mr_X2_findBest]
          try simp only [m1f]
          try simp (disch := omega) only [nmod, nI_leI, nI_ltI, nI_eq, nI_clamp, vin_nI, nI_1, fa_lit, nI_add, nI_rm3, nI_rm2, pk_rem, pk_mul, pk_sub, pk_div, nI_eM, nI_Me, nI_pM, nI_pMz, nI_pM0, M1_lt, M1_le, nI_ltM, nI_leM, i8_nI, true_and, and_true, false_implies, true_implies, not_false_eq_true, not_true_eq_false, ne_eq, implies_true, Nat.not_lt_zero, Nat.zero_le, ite_min, max0, Nat.reduceLT, Nat.reduceLeDiff, Nat.reduceEqDiff, Nat.reduceAdd, Nat.reduceMul]
          try simp only [m1u]
          refine ⟨fun _ => ih (y + 1) r _ _ _ _ _ _ _ (by omega) (by omega) ?_ hinv, fun q => absurd q (by omega)⟩
          rw [hr]
          refine (amx_skip _ (by omega) (fun c q1 q2 q3 => ?_)).symm
          have := hbox c (by omega) q3
          omega
        | succ k'' ihx =>
          intro x r n' z' g u10 u11 u12 hxx hx hr hinv
          have hc100 : 10 * y + x < 100 := by omega
          have hcm : (10 * y + x) % 10 = x ∧ (10 * y + x) / 10 = y := by omega
          have nxt : ∀ r', r' = amx cand val (10 * y + x + 1) → ∀ n' z' g u10 u11 u12, (CW S L lp N Z K g n' z' ∧ (∃ fa ne, KV 20 12 g (bye h r') (nI (knN S t)) (nI (fkN S 1 t)) fa ne) ∧ FRM FK f n g ∧ n ≤ n') → V G X 225 [.ref 20, .int (nI t), .int (nI R), .int (nI (h % 10)), .int (nI (h / 10)), .int (nI x1), .int (nI y1), .int (mst r'), .int (nI y), .int (nI x), u10, u11, u12] [] n' z' g := by
            intro r' hr' n' z' g u10 u11 u12 hinv
            exact h225 x r' n' z' g u10 u11 u12 (by omega) (fun n' z' g u10 u11 u12 hinv => ihx (x + 1) r' n' z' g u10 u11 u12 (by omega) (by omega) hr' hinv) hinv
          have hno : ¬ cand (10 * y + x) → amx cand val (10 * y + x + 1) = r := fun q => by rw [amx_no (fun z => absurd z q), hr]
          have h139 : ∀ b u10 u11 u12, (b = 1 ∧ ¬ (R = 10 ∨ 10 * y + x = h ∨ aj4 h (10 * y + x))) ∨ (b = 0 ∧ (R = 10 ∨ 10 * y + x = h ∨ aj4 h (10 * y + x))) → V G X 139 [.ref 20, .int (nI t), .int (nI R), .int (nI (h % 10)), .int (nI (h / 10)), .int (nI x1), .int (nI y1), .int (mst r), .int (nI y), .int (nI x), u10, u11, u12] [.int (nI b)] n' z' g := by
            intro b u10 u11 u12 hb
            obtain ⟨hW', ⟨fa', ne', hk'⟩, hF', hn'⟩ := id hinv
            obtain ⟨c1, -, ya, fam, -, -, -, -, -, -, -, c3, c3', c4, c4', -⟩ := id hW'.1
            have hk'' := hk'
            unfold KV at hk'
            refine wp_sound (by rw [hi]; exact ok_X2_findBest) (hd := [83, 93, 109, 175, 188, 206, 225]) 400 _ _ _ _ _ _ ?_
            simp only [wp, stp, List.mem_cons, List.not_mem_nil, Nat.reduceEqDiff, or_false, or_self, false_or, or_true, true_or, Nat.reduceAdd, ↓reduceIte, List.getElem?_cons_zero, List.getElem?_cons_succ, nthV, List.set_cons_zero, List.set_cons_succ, noL, popA, catS, Value.category, List.length_cons, List.length_nil, Nat.reduceLT, Nat.reduceLeDiff, true_and, and_true, one0, zer1, imp_t, imp_f, ofN_nI, sdead, f20, f21, not_true_eq_false, upC_ap, upC_upC, retC, fitC, isRefT, Option.toList_some, Option.toList_none, List.cons_append, List.nil_append, Nat.lt_add_one, Nat.zero_lt_succ, Nat.le_refl, Nat.add_zero, Nat.zero_add, Nat.one_ne_zero, Nat.zero_ne_one, Nat.lt_irrefl, List.length_set, fa_X2_findBest, hi, hd, hQ, mr_X2_findBest, hk', c1, c4, hct]
            try simp only [m1f]
            try simp (disch := omega) only [nmod, nI_leI, nI_ltI, nI_eq, nI_clamp, vin_nI, nI_1, fa_lit, nI_add, nI_rm3, nI_rm2, pk_rem, pk_mul, pk_sub, pk_div, nI_eM, nI_Me, nI_pM, nI_pMz, nI_pM0, M1_lt, M1_le, nI_ltM, nI_leM, i8_nI, true_and, and_true, false_implies, true_implies, not_false_eq_true, not_true_eq_false, ne_eq, implies_true, Nat.not_lt_zero, Nat.zero_le, ite_min, max0, Nat.reduceLT, Nat.reduceLeDiff, Nat.reduceEqDiff, Nat.reduceAdd, Nat.reduceMul]
            try simp only [m1u]
            rcases hb with ⟨rfl, hb⟩ | ⟨rfl, hb⟩
            · exact ⟨fun _ => nxt r (hno (fun q => by rw [hcand] at q; exact hb q.2)).symm _ _ _ _ _ _ hinv, fun q => absurd q (by decide)⟩
            · refine ⟨fun q => absurd rfl q, fun _ => ⟨by omega, by omega, _, t_couldStand hG (by omega) hW'.1 hB _ _ _, ?_⟩⟩
              rintro v n1 z1 f1 ⟨rfl, rfl, rfl, rfl⟩
              rw [c4' t ht]
              refine wp_sound (by rw [hi]; exact ok_X2_findBest) (hd := [83, 93, 109, 175, 188, 206, 225]) 400 _ _ _ _ _ _ ?_
              simp only [wp, stp, List.mem_cons, List.not_mem_nil, Nat.reduceEqDiff, or_false, or_self, false_or, or_true, true_or, Nat.reduceAdd, ↓reduceIte, List.getElem?_cons_zero, List.getElem?_cons_succ, nthV, List.set_cons_zero, List.set_cons_succ, noL, popA, catS, Value.category, List.length_cons, List.length_nil, Nat.reduceLT, Nat.reduceLeDiff, true_and, and_true, one0, zer1, imp_t, imp_f, ofN_nI, sdead, f20, f21, not_true_eq_false, upC_ap, upC_upC, retC, fitC, isRefT, Option.toList_some, Option.toList_none, List.cons_append, List.nil_append, Nat.lt_add_one, Nat.zero_lt_succ, Nat.le_refl, Nat.add_zero, Nat.zero_add, Nat.one_ne_zero, Nat.zero_ne_one, Nat.lt_irrefl, List.length_set, fa_X2_findBest, hi, hd, hQ, mr_X2_findBest, bI_0, hk']
              try simp only [m1f]
              try simp (disch := omega) only [nmod, nI_leI, nI_ltI, nI_eq, nI_clamp, vin_nI, nI_1, fa_lit, nI_add, nI_rm3, nI_rm2, pk_rem, pk_mul, pk_sub, pk_div, nI_eM, nI_Me, nI_pM, nI_pMz, nI_pM0, M1_lt, M1_le, nI_ltM, nI_leM, i8_nI, true_and, and_true, false_implies, true_implies, not_false_eq_true, not_true_eq_false, ne_eq, implies_true, Nat.not_lt_zero, Nat.zero_le, ite_min, max0, Nat.reduceLT, Nat.reduceLeDiff, Nat.reduceEqDiff, Nat.reduceAdd, Nat.reduceMul]
              try simp only [m1u]
              refine ⟨fun q => ⟨by omega, _, t_measureAt_20 hG (by omega) hB hW' hV hk'' (mnF_le _ _) (by omega) ((gr_gs hB hc100).mp (Decidable.not_not.mp q).1.1), ?_⟩, fun q => nxt r (hno (fun z => by rw [hcand] at z; exact q z.1)).symm _ _ _ _ _ _ hinv⟩
              have hgs := (gr_gs hB hc100).mp (Decidable.not_not.mp q).1.1
              have hcd : cand (10 * y + x) := by rw [hcand]; exact ⟨Decidable.not_not.mp q, hb⟩
              rintro v n2 z2 f2 ⟨rfl, hW2, hk2, hF2, hn2⟩
              obtain ⟨F, hF⟩ : ∃ F, f2 21 = cI 8 F := hW2.2.2.2.2.1.2
              have hk2' := hk2
              unfold KV at hk2
              have h1 : neA S 1 t (10 * y + x) ≤ _ := cnt1_le _ _
              have h2 : knN S t ≤ _ := cnt1_le _ _
              have h3 : fkN S 1 t ≤ 99 := mnF_le _ _
              have hFF := (hF'.trans hn' (hF2.mono (B := FK) (fun x hx => by simp at hx ⊢; omega)))
              refine wp_sound (by rw [hi]; exact ok_X2_findBest) (hd := [83, 93, 109, 175, 188, 206, 225]) 400 _ _ _ _ _ _ ?_
              simp only [wp, stp, List.mem_cons, List.not_mem_nil, Nat.reduceEqDiff, or_false, or_self, false_or, or_true, true_or, Nat.reduceAdd, ↓reduceIte, List.getElem?_cons_zero, List.getElem?_cons_succ, nthV, List.set_cons_zero, List.set_cons_succ, noL, popA, catS, Value.category, List.length_cons, List.length_nil, Nat.reduceLT, Nat.reduceLeDiff, true_and, and_true, one0, zer1, imp_t, imp_f, ofN_nI, sdead, f20, f21, not_true_eq_false, upC_ap, upC_upC, retC, fitC, isRefT, Option.toList_some, Option.toList_none, List.cons_append, List.nil_append, Nat.lt_add_one, Nat.zero_lt_succ, Nat.le_refl, Nat.add_zero, Nat.zero_add, Nat.one_ne_zero, Nat.zero_ne_one, Nat.lt_irrefl, List.length_set, fa_X2_findBest, hi, hd, hQ, mr_X2_findBest, hk2]
              try simp only [m1f]
              try simp (disch := omega) only [nmod, nI_leI, nI_ltI, nI_eq, nI_clamp, vin_nI, nI_1, fa_lit, nI_add, nI_rm3, nI_rm2, pk_rem, pk_mul, pk_sub, pk_div, nI_eM, nI_Me, nI_pM, nI_pMz, nI_pM0, M1_lt, M1_le, nI_ltM, nI_leM, i8_nI, true_and, and_true, false_implies, true_implies, not_false_eq_true, not_true_eq_false, ne_eq, implies_true, Nat.not_lt_zero, Nat.zero_le, ite_min, max0, Nat.reduceLT, Nat.reduceLeDiff, Nat.reduceEqDiff, Nat.reduceAdd, Nat.reduceMul]
              try simp only [m1u]
              refine ⟨by omega, _, t_payFor_20 hG (by omega) hB hW2.1 hW2.2.2.2.1 hk2' hF hgs.1 (by show min (fkN S 1 t) (faA S 1 t (10 * y + x)) < 1000; omega) (by show neA S 1 t (10 * y + x) < 1000; omega) (by omega), ?_⟩
              rintro v n3 z3 f3 ⟨rfl, rfl, rfl, F', rfl⟩
              have hv : payF S L (10 * y + x) (min (fkN S 1 t) (faA S 1 t (10 * y + x))) (neA S 1 t (10 * y + x)) (knN S t) = val (10 * y + x) := by rw [hval]; rfl
              have hvl : val (10 * y + x) ≤ 9999 := by rw [← hv]; exact payF_le _ _ _ _ _ _
              have hv' : payF S L (10 * y + x) (min (fkN S (nI 1) t) (faA S (nI 1) t (10 * y + x))) (neA S (nI 1) t (10 * y + x)) (knN S t) = val (10 * y + x) := hv
              rw [hv']
              have hk3 : upC f2 21 (cI 8 F') 20 = _ := (upC_ne _ _ (by omega)).trans hk2
              refine wp_sound (by rw [hi]; exact ok_X2_findBest) (hd := [83, 93, 109, 175, 188, 206, 225]) 400 _ _ _ _ _ _ ?_
              simp only [wp, stp, List.mem_cons, List.not_mem_nil, Nat.reduceEqDiff, or_false, or_self, false_or, or_true, true_or, Nat.reduceAdd, ↓reduceIte, List.getElem?_cons_zero, List.getElem?_cons_succ, nthV, List.set_cons_zero, List.set_cons_succ, noL, popA, catS, Value.category, List.length_cons, List.length_nil, Nat.reduceLT, Nat.reduceLeDiff, true_and, and_true, one0, zer1, imp_t, imp_f, ofN_nI, sdead, f20, f21, not_true_eq_false, upC_ap, upC_upC, retC, fitC, isRefT, Option.toList_some, Option.toList_none, List.cons_append, List.nil_append, Nat.lt_add_one, Nat.zero_lt_succ, Nat.le_refl, Nat.add_zero, Nat.zero_add, Nat.one_ne_zero, Nat.zero_ne_one, Nat.lt_irrefl, List.length_set, fa_X2_findBest, hi, hd, hQ, mr_X2_findBest, hk2]
              try simp only [m1f]
              try simp (disch := omega) only [nmod, nI_leI, nI_ltI, nI_eq, nI_clamp, vin_nI, nI_1, fa_lit, nI_add, nI_rm3, nI_rm2, pk_rem, pk_mul, pk_sub, pk_div, nI_eM, nI_Me, nI_pM, nI_pMz, nI_pM0, M1_lt, M1_le, nI_ltM, nI_leM, i8_nI, true_and, and_true, false_implies, true_implies, not_false_eq_true, not_true_eq_false, ne_eq, implies_true, Nat.not_lt_zero, Nat.zero_le, ite_min, max0, Nat.reduceLT, Nat.reduceLeDiff, Nat.reduceEqDiff, Nat.reduceAdd, Nat.reduceMul]
              try simp only [m1u]
              refine ⟨fun q => nxt r ?_ _ _ _ _ _ _ ⟨hW2.facts_20 F', ⟨_, _, hk3⟩, hFF.up (by omega) (by simp), by omega⟩, fun q => nxt (some (10 * y + x, val (10 * y + x))) ?_ _ _ _ _ _ _ ⟨(hW2.facts_20 F').king_20 _ _ _ _ _, ⟨_, _, upC_self _ _ _⟩, (hFF.up (by omega) (by simp)).up (by omega) (by simp), by omega⟩⟩
              · rw [hr]
                refine (amx_no (fun _ => ?_)).symm
                rw [← hr]
                cases er : r with
                | none => rw [er] at q; exact absurd q (by rw [show mst none = M1 from rfl, nI_leM (by omega)]; exact id)
                | some e => 
                  rw [er] at q hr
                  obtain ⟨a1, a2, a3⟩ := amx_in hr.symm
                  have a4 : e.2 ≤ 9999 := by rw [a3, hval]; exact payF_le _ _ _ _ _ _
                  rw [show mst (some e) = nI e.2 from rfl, nI_leI (by omega) (by omega)] at q
                  exact ⟨e, rfl, q⟩
              · refine (amx_yes hcd (fun e he => ?_)).symm
                rw [← hr] at he
                obtain ⟨a1, a2, a3⟩ := amx_in (he ▸ hr.symm)
                have a4 : e.2 ≤ 9999 := by rw [a3, hval]; exact payF_le _ _ _ _ _ _
                rw [he, show mst (some e) = nI e.2 from rfl, nI_leI (by omega) (by omega)] at q
                omega
          refine wp_sound (by rw [hi]; exact ok_X2_findBest) (hd := [83, 93, 109, 139, 175, 188, 206, 225]) 400 _ _ _ _ _ _ ?_
          simp only [wp, stp, List.mem_cons, List.not_mem_nil, Nat.reduceEqDiff, or_false, or_self, false_or, or_true, true_or, Nat.reduceAdd, ↓reduceIte, List.getElem?_cons_zero, List.getElem?_cons_succ, nthV, List.set_cons_zero, List.set_cons_succ, noL, popA, catS, Value.category, List.length_cons, List.length_nil, Nat.reduceLT, Nat.reduceLeDiff, true_and, and_true, one0, zer1, imp_t, imp_f, ofN_nI, sdead, f20, f21, not_true_eq_false, upC_ap, upC_upC, retC, fitC, isRefT, Option.toList_some, Option.toList_none, List.cons_append, List.nil_append, Nat.lt_add_one, Nat.zero_lt_succ, Nat.le_refl, Nat.add_zero, Nat.zero_add, Nat.one_ne_zero, Nat.zero_ne_one, Nat.lt_irrefl, List.length_set, fa_X2_findBest, hi, hd, hQ, mr_X2_findBest]
          try simp only [m1f]
          try simp (disch := omega) only [nmod, nI_leI, nI_ltI, nI_eq, nI_clamp, vin_nI, nI_1, fa_lit, nI_add, nI_rm3, nI_rm2, pk_rem, pk_mul, pk_sub, pk_div, nI_eM, nI_Me, nI_pM, nI_pMz, nI_pM0, M1_lt, M1_le, nI_ltM, nI_leM, i8_nI, true_and, and_true, false_implies, true_implies, not_false_eq_true, not_true_eq_false, ne_eq, implies_true, Nat.not_lt_zero, Nat.zero_le, ite_min, max0, Nat.reduceLT, Nat.reduceLeDiff, Nat.reduceEqDiff, Nat.reduceAdd, Nat.reduceMul]
          try simp only [m1u]
          refine ⟨fun q => absurd q (by omega), fun _ => ⟨fun q => h139 0 _ _ _ (Or.inr ⟨rfl, by omega⟩), fun q1 => ⟨fun q => h139 0 _ _ _ (Or.inr ⟨rfl, by unfold aj4; omega⟩), fun q2 => ⟨fun q => h139 0 _ _ _ (Or.inr ⟨rfl, by unfold aj4; omega⟩), fun q => h139 1 _ _ _ (Or.inl ⟨rfl, by unfold aj4; omega⟩)⟩⟩⟩⟩
      refine wp_sound (by rw [hi]; exact ok_X2_findBest) (hd := [83, 93, 109, 175, 188, 206]) 400 _ _ _ _ _ _ ?_
      simp only [wp, stp, List.mem_cons, List.not_mem_nil, Nat.reduceEqDiff, or_false, or_self, false_or, or_true, true_or, Nat.reduceAdd, ↓reduceIte, List.getElem?_cons_zero, List.getElem?_cons_succ, nthV, List.set_cons_zero, List.set_cons_succ, noL, popA, catS, Value.category, List.length_cons, List.length_nil, Nat.reduceLT, Nat.reduceLeDiff, true_and, and_true, one0, zer1, imp_t, imp_f, ofN_nI, sdead, f20, f21, not_true_eq_false, upC_ap, upC_upC, retC, fitC, isRefT, Option.toList_some, Option.toList_none, List.cons_append, List.nil_append, Nat.lt_add_one, Nat.zero_lt_succ, Nat.le_refl, Nat.add_zero, Nat.zero_add, Nat.one_ne_zero, Nat.zero_ne_one, Nat.lt_irrefl, List.length_set, fa_X2_findBest, hi, hd, hQ, mr_X2_findBest]
      try simp only [m1f]
      try simp (disch := omega) only [nmod, nI_leI, nI_ltI, nI_eq, nI_clamp, vin_nI, nI_1, fa_lit, nI_add, nI_rm3, nI_rm2, pk_rem, pk_mul, pk_sub, pk_div, nI_eM, nI_Me, nI_pM, nI_pMz, nI_pM0, M1_lt, M1_le, nI_ltM, nI_leM, i8_nI, true_and, and_true, false_implies, true_implies, not_false_eq_true, not_true_eq_false, ne_eq, implies_true, Nat.not_lt_zero, Nat.zero_le, ite_min, max0, Nat.reduceLT, Nat.reduceLeDiff, Nat.reduceEqDiff, Nat.reduceAdd, Nat.reduceMul]
      try simp only [m1u]
      have e9 : (if nI 0 < nI (h % 10) - nI R then nI (h % 10) - nI R else nI 0) = nI x0 := by rw [max0 (by omega) (by omega), ← hx0]
      refine ⟨fun q => absurd q (by omega), fun _ => ⟨by omega, ?_⟩⟩
      have key := fun u10 u11 u12 => inner (x1 + 1 - x0) x0 r n' z' g u10 u11 u12 (Nat.le_refl _) (by omega) (by
        rw [hr]
        refine (amx_skip _ (by omega) (fun c q1 q2 q3 => ?_)).symm
        have := hbox c (by omega) q3
        omega) hinv
      rw [← e9] at key
      exact key _ _ _
  have eya : ya t = nI h := (c3' t ht).trans eh
  refine wp_sound (by rw [hi]; exact ok_X2_findBest) (hd := [83, 93, 109, 175, 188, 206]) 400 _ _ _ _ _ _ ?_
  simp only [wp, stp, List.mem_cons, List.not_mem_nil, Nat.reduceEqDiff, or_false, or_self, false_or, or_true, true_or, Nat.reduceAdd, ↓reduceIte, List.getElem?_cons_zero, List.getElem?_cons_succ, nthV, List.set_cons_zero, List.set_cons_succ, noL, popA, catS, Value.category, List.length_cons, List.length_nil, Nat.reduceLT, Nat.reduceLeDiff, true_and, and_true, one0, zer1, imp_t, imp_f, ofN_nI, sdead, f20, f21, not_true_eq_false, upC_ap, upC_upC, retC, fitC, isRefT, Option.toList_some, Option.toList_none, List.cons_append, List.nil_append, Nat.lt_add_one, Nat.zero_lt_succ, Nat.le_refl, Nat.add_zero, Nat.zero_add, Nat.one_ne_zero, Nat.zero_ne_one, Nat.lt_irrefl, List.length_set, fa_X2_findBest, hi, hd, hQ, mr_X2_findBest, hk0, c1, c3, hct, eya, e0, e1]
  try simp only [m1f]
  try simp (disch := omega) only [nmod, nI_leI, nI_ltI, nI_eq, nI_clamp, vin_nI, nI_1, fa_lit, nI_add, nI_rm3, nI_rm2, pk_rem, pk_mul, pk_sub, pk_div, nI_eM, nI_Me, nI_pM, nI_pMz, nI_pM0, M1_lt, M1_le, nI_ltM, nI_leM, i8_nI, true_and, and_true, false_implies, true_implies, not_false_eq_true, not_true_eq_false, ne_eq, implies_true, Nat.not_lt_zero, Nat.zero_le, ite_min, max0, Nat.reduceLT, Nat.reduceLeDiff, Nat.reduceEqDiff, Nat.reduceAdd, Nat.reduceMul]
  try simp only [m1u]
  refine ⟨by omega, by omega, by omega, by omega, by omega, by omega, _, t_measureKin_20 hG (by omega) hB (hW.king_20 _ _ _ _ _) hV ⟨_, _, _, _, upC_self _ _ _⟩ ht, ?_⟩
  rintro v n1 z1 f1 ⟨rfl, hW1, hk1, hF1, hn1⟩
  refine wp_sound (by rw [hi]; exact ok_X2_findBest) (hd := [83, 93, 109, 175, 188, 206]) 400 _ _ _ _ _ _ ?_
  simp only [wp, stp, List.mem_cons, List.not_mem_nil, Nat.reduceEqDiff, or_false, or_self, false_or, or_true, true_or, Nat.reduceAdd, ↓reduceIte, List.getElem?_cons_zero, List.getElem?_cons_succ, nthV, List.set_cons_zero, List.set_cons_succ, noL, popA, catS, Value.category, List.length_cons, List.length_nil, Nat.reduceLT, Nat.reduceLeDiff, true_and, and_true, one0, zer1, imp_t, imp_f, ofN_nI, sdead, f20, f21, not_true_eq_false, upC_ap, upC_upC, retC, fitC, isRefT, Option.toList_some, Option.toList_none, List.cons_append, List.nil_append, Nat.lt_add_one, Nat.zero_lt_succ, Nat.le_refl, Nat.add_zero, Nat.zero_add, Nat.one_ne_zero, Nat.zero_ne_one, Nat.lt_irrefl, List.length_set, fa_X2_findBest, hi, hd, hQ, mr_X2_findBest]
  try simp only [m1f]
  try simp (disch := omega) only [nmod, nI_leI, nI_ltI, nI_eq, nI_clamp, vin_nI, nI_1, fa_lit, nI_add, nI_rm3, nI_rm2, pk_rem, pk_mul, pk_sub, pk_div, nI_eM, nI_Me, nI_pM, nI_pMz, nI_pM0, M1_lt, M1_le, nI_ltM, nI_leM, i8_nI, true_and, and_true, false_implies, true_implies, not_false_eq_true, not_true_eq_false, ne_eq, implies_true, Nat.not_lt_zero, Nat.zero_le, ite_min, max0, Nat.reduceLT, Nat.reduceLeDiff, Nat.reduceEqDiff, Nat.reduceAdd, Nat.reduceMul]
  try simp only [m1u]
  have e9 : (if nI 0 < nI (h / 10) - nI R then nI (h / 10) - nI R else nI 0) = nI y0 := by rw [max0 (by omega) (by omega), ← hy0]
  rw [← hx1, ← hy1]
  refine ⟨by omega, ?_⟩
  have key := fun u9 u10 u11 u12 => outer (y1 + 1 - y0) y0 none n1 z1 f1 u9 u10 u11 u12 (Nat.le_refl _) (by omega) (by
    refine (amx_skip (i := 0) (10 * y0) (Nat.zero_le _) (fun c q1 q2 q3 => ?_)).symm
    have := hbox c (by omega) q3
    omega) ⟨hW1, hk1, ((FRM.refl FK f n).up (by omega) (by simp)).trans (Nat.le_refl _) (hF1.mono (fun x hx => by simp at hx ⊢; omega)), hn1⟩
  rw [← e9] at key
  exact key _ _ _ _
end King3
