-- Thought: the still fine, sendings, rest
set_option maxRecDepth 100000
set_option maxHeartbeats 4000000
def mvl (r : Option (Nat × Nat)) : Nat := match r with | none => 0 | some q => q.2
noncomputable def lnF (S : Sta) (L : Lw) (t : Nat) : Nat := if S 4 t = 1 then mvl (fsb S L t 10 (S 2 t).toNatClampNeg) - pyN S L 1 t else if S 4 t = 2 then mvl (fsb S L t 1 (S 2 t).toNatClampNeg) - pyN S L 1 t else 0
def mxF (F : Nat → Nat) : Nat → Nat
  | 0 => 0
  | k + 1 => max (mxF F k) (F k)
theorem mxF_le {F : Nat → Nat} {b : Nat} (h : ∀ o, F o ≤ b) : ∀ k, mxF F k ≤ b
  | 0 => Nat.zero_le _
  | k + 1 => Nat.max_le.mpr ⟨mxF_le h k, h k⟩
theorem fsb_le {S : Sta} {L : Lw} {t R h : Nat} : mvl (fsb S L t R h) ≤ 9999 := by
  cases e : fsb S L t R h with
  | none => exact Nat.zero_le _
  | some q =>
    have := (amx_in e).2.2
    show q.2 ≤ 9999
    rw [this]; exact payF_le _ _ _ _ _ _
theorem lnF_le (S : Sta) (L : Lw) (t : Nat) : lnF S L t ≤ 9999 := by
  unfold lnF
  have h1 := fsb_le (S := S) (L := L) (t := t) (R := 10) (h := (S 2 t).toNatClampNeg)
  have h2 := fsb_le (S := S) (L := L) (t := t) (R := 1) (h := (S 2 t).toNatClampNeg)
  split
  · omega
  · split <;> omega
theorem maxsub {a b c : Nat} (ha : a < 1000000) (hb : b < 1000000) (hc : c < 1000000) : (if nI a < nI b - nI c then nI b - nI c else nI a) = nI (max a (b - c)) := by
  have e : (nI b - nI c).toInt = (b : Int) - c := pk_sub_toInt (by omega) (by omega)
  have e2 : (nI a).toInt = a := nI_toInt (by omega)
  by_cases h : nI a < nI b - nI c
  · rw [if_pos h]
    rw [Int32.lt_iff_toInt_lt, e, e2] at h
    rw [pk_sub (by omega)]; congr 1; omega
  · rw [if_neg h]
    rw [Int32.lt_iff_toInt_lt, e, e2] at h
    congr 1; omega
theorem mst_sub (r : Option (Nat × Nat)) (p : Nat) : ∃ b c, mst r - nI p = nI b - nI c ∧ b - c = mvl r - p ∧ b ≤ mvl r ∧ c ≤ p + 1 := by
  cases r with
  | none => exact ⟨0, p + 1, m1_sub p, by show 0 - (p + 1) = 0 - p; omega, Nat.le_refl _, Nat.le_refl _⟩
  | some q => exact ⟨q.2, p, rfl, rfl, Nat.le_refl _, by omega⟩
noncomputable def snS (S : Sta) (L : Lw) (t k : Nat) : Option (Nat × Nat) := amx (fun c => csN S t c) (fun c => famN (upS S 2 t (nI c)) L t) k
noncomputable def seqS (L : Lw) (S : Sta) : Nat → Sta
  | 0 => S
  | r + 1 => (noonS L 1 (seqS L S r)).1
def eqY (n : Nat) (S T : Sta) : Prop := ∀ t, t < n → S 2 t = T 2 t
noncomputable def circD (P : Nat → Prop) (m : Nat) : Nat → Nat
  | 0 => 0
  | e + 1 => @ite _ (P e) (Classical.propDecidable _) (m - e) (circD P m e)
noncomputable def cirS (L : Lw) (S : Sta) (m : Nat) : Nat := circD (fun e => eqY (tn S) (seqS L S e) (seqS L S m)) m m
noncomputable def setl (L : Lw) (S : Sta) : Nat → Nat → Int32 × Int32
  | 0, _ => (-1, 0)
  | k + 1, r => @ite _ ((noonS L 1 (seqS L S r)).2.2 = 0) (Classical.propDecidable _) (nI r, 0) (@ite _ (cirS L S (r + 1) = 0) (Classical.propDecidable _) (setl L S k (r + 1)) (-1, nI (cirS L S (r + 1))))
theorem circD_yes {P : Nat → Prop} {m e : Nat} (h : P e) : circD P m (e + 1) = m - e := by rw [circD, if_pos h]
theorem circD_no {P : Nat → Prop} {m e : Nat} (h : ¬ P e) : circD P m (e + 1) = circD P m e := by rw [circD, if_neg h]
theorem circD_le {P : Nat → Prop} {m : Nat} : ∀ e, circD P m e ≤ m
  | 0 => Nat.zero_le _
  | e + 1 => by
    by_cases h : P e
    · rw [circD_yes h]; omega
    · rw [circD_no h]; exact circD_le e
theorem drS_1 (S : Sta) (t : Nat) : drS S 1 t = S 0 2 := by unfold drS; rw [if_neg (fun q => absurd q.2 (by decide))]
theorem nn1_dr {L : Lw} {wl : Option (Nat → Option Nat)} {S : Sta} : ∀ k, (nn1 L 1 wl S k).1 0 2 = S 0 2
  | 0 => rfl
  | k + 1 => by
    have ih := nn1_dr (L := L) (wl := wl) (S := S) k
    have e : stp1 1 wl (nn1 L 1 wl S k).1 k 0 2 = S 0 2 := by
      cases wl with
      | none => show upS _ 0 2 (drS _ 1 k) 0 2 = _; rw [upS_self, drS_1]; exact ih
      | some g => exact ih
    by_cases h : goP (stp1 1 wl (nn1 L 1 wl S k).1 k) k (wsh1 L 1 wl (nn1 L 1 wl S k).1 k)
    · rw [nn1_go h]; dsimp only; rw [upS_row (by omega)]; exact e
    · rw [nn1_st h]; exact e
theorem ww1_dr {L : Lw} {S : Sta} : ∀ k, (ww1 L 1 S k).1 0 2 = S 0 2
  | 0 => rfl
  | k + 1 => by
    rw [ww1]; dsimp only
    rw [upS_self, drS_1]; exact ww1_dr k
theorem noon_dr {L : Lw} {S : Sta} : (noonS L 1 S).1 0 2 = S 0 2 := by
  unfold noonS; split
  · exact nn1_dr _
  · rw [nn1_dr, ww1_dr]
theorem seqS_ok {L : Lw} {S : Sta} (hS : VS S) : ∀ r, VS (seqS L S r) ∧ ∀ j, ¬ j = 2 → seqS L S r j = S j
  | 0 => ⟨hS, fun _ _ => rfl⟩
  | r + 1 => by
    obtain ⟨h1, h2⟩ := seqS_ok (L := L) hS r
    obtain ⟨h3, h4⟩ := noonS_ok (L := L) (th := 1) h1
    refine ⟨h3, fun j hj => ?_⟩
    rw [← h2 j hj]
    show (noonS L 1 (seqS L S r)).1 j = _
    by_cases e : j = 0
    · subst e
      funext i
      by_cases q : i = 2
      · subst q; exact noon_dr
      · exact h4.1 i q
    · exact h4.2 j e hj
theorem CR.yards {S T : Sta} {lp : Nat} {f : Mf} (h : CR T lp f) (hr : ∀ j, ¬ j = 2 → T j = S j) {b : Nat → Int32} (hb : ∀ t, t < tn S → b t = S 2 t) : CR S lp (upC f 3 (cI 10 b)) := by
  have et : tn T = tn S := by unfold tn; rw [hr 0 (by omega)]
  have em : mn T = mn S := by unfold mn; rw [hr 0 (by omega)]
  unfold CR at h ⊢
  rw [et, em, hr 0 (by omega), hr 1 (by omega), hr 3 (by omega), hr 4 (by omega), hr 5 (by omega), hr 6 (by omega), hr 7 (by omega), hr 8 (by omega)] at h
  obtain ⟨h1, kd, ya, fa, mo, co, mv, tp, my, h2, h2', h3, h3', h4, h4', h5, h5', h6, h6', h7, h7', h8, h8', h9, h9'⟩ := h
  exact ⟨by rw [upC_ne _ _ (by omega)]; exact h1, kd, b, fa, mo, co, mv, tp, my, by rw [upC_ne _ _ (by omega)]; exact h2, h2', upC_self _ _ _, hb, by rw [upC_ne _ _ (by omega)]; exact h4, h4', by rw [upC_ne _ _ (by omega)]; exact h5, h5', by rw [upC_ne _ _ (by omega)]; exact h6, h6', by rw [upC_ne _ _ (by omega)]; exact h7, h7', by rw [upC_ne _ _ (by omega)]; exact h8, h8', by rw [upC_ne _ _ (by omega)]; exact h9, h9'⟩
abbrev FR : List Nat := [1, 3, 13, 14, 15, 20, 21, 25, 26, 28, 29]
section Th3
variable {G : Gam} {d n z lp N Z K t : Nat} {f : Mf} {S : Sta} {L : Lw} {a : Nat → Int32}
theorem t_stillFine (hG : Ok G) (hd1 : 5 ≤ d) (hS : VS S) (hW : CW S L lp N Z K f n z) (hT : TV f a) : Tr G d 79 [.ref 28] n z f (fun v n' z' f' => v = some (.int (nI (mxF (lnF S L) (tn S)))) ∧ CW S L lp N Z K f' n' z' ∧ FRM FK f n f' ∧ n ≤ n') := by
  have hB := hS.1.1
  obtain ⟨⟨b1, b2⟩, ⟨b3, b4⟩, -⟩ := id hB
  refine Tr.of2 (ls0 := [.ref 28, dead, dead, dead, dead]) hG mo_X6_stillFine (Nat.le_of_ble_eq_true rfl) rfl ?_
  intro X hi hd hXn hXz hXf hQ
  have loop : ∀ k' k n' z' g u3 u4, k + k' = tn S → CW S L lp N Z K g n' z' → FRM FK f n g → n ≤ n' → V G X 4 [.ref 28, .int (nI (mxF (lnF S L) k)), .int (nI k), u3, u4] [] n' z' g := by
    intro k'
    induction k' with
    | zero =>
      intro k n' z' g u3 u4 hk hW' hF' hn'
      have : k = tn S := by omega
      subst this
      have c1 := hW'.1.1
      have t1 : g 28 = _ := (hF'.1 28 (by omega) (by decide)).trans hT
      refine wp_sound (by rw [hi]; exact ok_X6_stillFine) (hd := [4, 54, 67]) 400 _ _ _ _ _ _ ?_
      simp only [wp, stp, List.mem_cons, List.not_mem_nil, Nat.reduceEqDiff, or_false, or_self, false_or, or_true, true_or, Nat.reduceAdd, ↓reduceIte, List.getElem?_cons_zero, List.getElem?_cons_succ, nthV, List.set_cons_zero, List.set_cons_succ, noL, popA, catS, Value.category, List.length_cons, List.length_nil, Nat.reduceLT, Nat.reduceLeDiff, true_and, and_true, one0, zer1, imp_t, imp_f, ofN_nI, sdead, f20, f21, not_true_eq_false, upC_ap, upC_upC, retC, fitC, isRefT, Option.toList_some, Option.toList_none, List.cons_append, List.nil_append, Nat.lt_add_one, Nat.zero_lt_succ, Nat.le_refl, Nat.add_zero, Nat.zero_add, Nat.one_ne_zero, Nat.zero_ne_one, Nat.lt_irrefl, List.length_set, fa_X6_stillFine, hi, hd, hQ, mr_X6_stillFine, c1, t1, b1]
      exact ⟨fun _ => ⟨hW', hF', hn'⟩, fun h => absurd (Int32.le_refl _) h⟩
    | succ k' ih =>
      intro k n' z' g u3 u4 hk hW' hF' hn'
      have ih' := fun n' z' g u3 u4 => ih (k + 1) n' z' g u3 u4 (by omega)
      have hml := mxF_le (lnF_le S L) k
      simp only [mxF] at ih'
      obtain ⟨M, hM⟩ : ∃ M, M = mxF (lnF S L) k := ⟨_, rfl⟩
      rw [← hM] at ih' hml ⊢
      have t1 : g 28 = _ := (hF'.1 28 (by omega) (by decide)).trans hT
      obtain ⟨c1, kd, ya, fam, mo, co, mv, tp, my, -, -, -, -, -, -, c5, c5', -⟩ := id hW'.1
      have hct : (nI k).toNatClampNeg = k := nI_clamp (by omega)
      have hit : vp_in (nI k) 10 := (vin_nI (by omega)).mpr (by omega)
      have e5 : mo k = S 4 k := c5' k (by omega)
      obtain ⟨bY, hk1⟩ := hW'.kb
      obtain ⟨kn0, fk0, fa0, ne0, hk0⟩ := id hk1
      unfold KV at hk0
      obtain ⟨hm, hm1, hm2⟩ := hS.home (show k < tn S by omega)
      have hm100 := hm1.1.1
      have hcm : (S 2 k).toNatClampNeg = hm := by rw [hm2, nI_clamp (by omega)]
      have h51 : ∀ R, (R = 10 ∨ R = 1) → lnF S L k = mvl (fsb S L k R hm) - pyN S L 1 k → V G X 51 [.ref 28, .int (nI M), .int (nI k), .int (S 4 k), u4] [.int (nI R), .int (nI k), .ref 20] n' z' g := by
        intro R hR el
        refine wp_sound (by rw [hi]; exact ok_X6_stillFine) (hd := [4, 54, 67]) 400 _ _ _ _ _ _ ?_
        simp only [wp, stp, List.mem_cons, List.not_mem_nil, Nat.reduceEqDiff, or_false, or_self, false_or, or_true, true_or, Nat.reduceAdd, ↓reduceIte, List.getElem?_cons_zero, List.getElem?_cons_succ, nthV, List.set_cons_zero, List.set_cons_succ, noL, popA, catS, Value.category, List.length_cons, List.length_nil, Nat.reduceLT, Nat.reduceLeDiff, true_and, and_true, one0, zer1, imp_t, imp_f, ofN_nI, sdead, f20, f21, not_true_eq_false, upC_ap, upC_upC, retC, fitC, isRefT, Option.toList_some, Option.toList_none, List.cons_append, List.nil_append, Nat.lt_add_one, Nat.zero_lt_succ, Nat.le_refl, Nat.add_zero, Nat.zero_add, Nat.one_ne_zero, Nat.zero_ne_one, Nat.lt_irrefl, List.length_set, fa_X6_stillFine, hi, hd, hQ, mr_X6_stillFine, hk0]
        refine ⟨by omega, _, t_findBest hG (by omega) hB hW' hS.2.1 hk1 (by omega) hm1 hm2 hR, ?_⟩
        rintro v n1 z1 f1 ⟨rfl, hW1, hk2, hF1, hn1⟩
        have t2 : f1 28 = _ := (hF1.1 28 (by omega) (by decide)).trans t1
        obtain ⟨kn1, fk1, fa1, ne1, hk3⟩ := id hk2
        unfold KV at hk3
        refine wp_sound (by rw [hi]; exact ok_X6_stillFine) (hd := [4, 54, 67]) 400 _ _ _ _ _ _ ?_
        simp only [wp, stp, List.mem_cons, List.not_mem_nil, Nat.reduceEqDiff, or_false, or_self, false_or, or_true, true_or, Nat.reduceAdd, ↓reduceIte, List.getElem?_cons_zero, List.getElem?_cons_succ, nthV, List.set_cons_zero, List.set_cons_succ, noL, popA, catS, Value.category, List.length_cons, List.length_nil, Nat.reduceLT, Nat.reduceLeDiff, true_and, and_true, one0, zer1, imp_t, imp_f, ofN_nI, sdead, f20, f21, not_true_eq_false, upC_ap, upC_upC, retC, fitC, isRefT, Option.toList_some, Option.toList_none, List.cons_append, List.nil_append, Nat.lt_add_one, Nat.zero_lt_succ, Nat.le_refl, Nat.add_zero, Nat.zero_add, Nat.one_ne_zero, Nat.zero_ne_one, Nat.lt_irrefl, List.length_set, fa_X6_stillFine, hi, hd, hQ, mr_X6_stillFine, t2, hk3]
        refine ⟨by omega, _, t_payOf_20 hG (by omega) hB hW1 hS.2.1 hk2 (by omega) (hS.2.2.1 k (by omega)), ?_⟩
        rintro v n2 z2 f2 ⟨rfl, hW2, hk4, hF2, hn2⟩
        obtain ⟨b, c, e1, e2, e3, e4⟩ := mst_sub (fsb S L k R hm) (pyN S L 1 k)
        have hfl := fsb_le (S := S) (L := L) (t := k) (R := R) (h := hm)
        have hpl := pyN_le S L 1 k
        refine wp_sound (by rw [hi]; exact ok_X6_stillFine) (hd := [4, 54, 67]) 400 _ _ _ _ _ _ ?_
        simp only [wp, stp, List.mem_cons, List.not_mem_nil, Nat.reduceEqDiff, or_false, or_self, false_or, or_true, true_or, Nat.reduceAdd, ↓reduceIte, List.getElem?_cons_zero, List.getElem?_cons_succ, nthV, List.set_cons_zero, List.set_cons_succ, noL, popA, catS, Value.category, List.length_cons, List.length_nil, Nat.reduceLT, Nat.reduceLeDiff, true_and, and_true, one0, zer1, imp_t, imp_f, ofN_nI, sdead, f20, f21, not_true_eq_false, upC_ap, upC_upC, retC, fitC, isRefT, Option.toList_some, Option.toList_none, List.cons_append, List.nil_append, Nat.lt_add_one, Nat.zero_lt_succ, Nat.le_refl, Nat.add_zero, Nat.zero_add, Nat.one_ne_zero, Nat.zero_ne_one, Nat.lt_irrefl, List.length_set, fa_X6_stillFine, hi, hd, hQ, mr_X6_stillFine, e1]
        rw [maxsub (by omega) (by omega) (by omega), e2, ← el, nI_1]
        exact ⟨by omega, ih' n2 z2 f2 _ _ hW2 ((hF'.trans hn' hF1).trans (by omega) hF2.k) (by omega)⟩
      have h72 : lnF S L k = 0 → V G X 72 [.ref 28, .int (nI M), .int (nI k), .int (S 4 k), u4] [] n' z' g := by
        intro el
        refine wp_sound (by rw [hi]; exact ok_X6_stillFine) (hd := [4, 54, 67]) 400 _ _ _ _ _ _ ?_
        simp only [wp, stp, List.mem_cons, List.not_mem_nil, Nat.reduceEqDiff, or_false, or_self, false_or, or_true, true_or, Nat.reduceAdd, ↓reduceIte, List.getElem?_cons_zero, List.getElem?_cons_succ, nthV, List.set_cons_zero, List.set_cons_succ, noL, popA, catS, Value.category, List.length_cons, List.length_nil, Nat.reduceLT, Nat.reduceLeDiff, true_and, and_true, one0, zer1, imp_t, imp_f, ofN_nI, sdead, f20, f21, not_true_eq_false, upC_ap, upC_upC, retC, fitC, isRefT, Option.toList_some, Option.toList_none, List.cons_append, List.nil_append, Nat.lt_add_one, Nat.zero_lt_succ, Nat.le_refl, Nat.add_zero, Nat.zero_add, Nat.one_ne_zero, Nat.zero_ne_one, Nat.lt_irrefl, List.length_set, fa_X6_stillFine, hi, hd, hQ, mr_X6_stillFine]
        try simp only [m1f]
        try simp (disch := omega) only [nmod, nI_leI, nI_ltI, nI_eq, nI_clamp, vin_nI, nI_1, fa_lit, nI_add, nI_rm3, nI_rm2, pk_rem, pk_mul, pk_sub, pk_div, nI_eM, nI_Me, nI_pM, nI_pMz, nI_pM0, M1_lt, M1_le, nI_ltM, nI_leM, i8_nI, true_and, and_true, false_implies, true_implies, not_false_eq_true, not_true_eq_false, ne_eq, implies_true, Nat.not_lt_zero, Nat.zero_le, ite_min, max0, Nat.reduceLT, Nat.reduceLeDiff, Nat.reduceEqDiff, Nat.reduceAdd, Nat.reduceMul]
        try simp only [m1u]
        have := ih' n' z' g (.int (S 4 k)) u4 hW' hF' hn'
        rw [el, Nat.max_eq_left (Nat.zero_le _)] at this
        exact this
      refine wp_sound (by rw [hi]; exact ok_X6_stillFine) (hd := [4, 51, 54, 67, 72]) 400 _ _ _ _ _ _ ?_
      simp only [wp, stp, List.mem_cons, List.not_mem_nil, Nat.reduceEqDiff, or_false, or_self, false_or, or_true, true_or, Nat.reduceAdd, ↓reduceIte, List.getElem?_cons_zero, List.getElem?_cons_succ, nthV, List.set_cons_zero, List.set_cons_succ, noL, popA, catS, Value.category, List.length_cons, List.length_nil, Nat.reduceLT, Nat.reduceLeDiff, true_and, and_true, one0, zer1, imp_t, imp_f, ofN_nI, sdead, f20, f21, not_true_eq_false, upC_ap, upC_upC, retC, fitC, isRefT, Option.toList_some, Option.toList_none, List.cons_append, List.nil_append, Nat.lt_add_one, Nat.zero_lt_succ, Nat.le_refl, Nat.add_zero, Nat.zero_add, Nat.one_ne_zero, Nat.zero_ne_one, Nat.lt_irrefl, List.length_set, fa_X6_stillFine, hi, hd, hQ, mr_X6_stillFine, c1, t1, b1, c5, hct, e5]
      refine ⟨fun h => absurd ((nI_leI (by omega) (by omega)).mp h) (by omega), fun _ => ⟨hit, fun h1 => ⟨fun h => absurd h1 h, fun _ => h51 10 (Or.inl rfl) ?_⟩, fun h1 => ⟨fun h2 => h72 ?_, fun h2 => ⟨fun _ => h51 1 (Or.inr rfl) ?_, fun h => absurd h h1⟩⟩⟩⟩
      · rw [lnF, if_pos h1, hcm]
      · rw [lnF, if_neg h1, if_neg h2]
      · rw [lnF, if_neg h1, if_pos h2, hcm]
  refine wp_sound (by rw [hi]; exact ok_X6_stillFine) (hd := [4, 54, 67]) 400 _ _ _ _ _ _ ?_
  simp only [wp, stp, List.mem_cons, List.not_mem_nil, Nat.reduceEqDiff, or_false, or_self, false_or, or_true, true_or, Nat.reduceAdd, ↓reduceIte, List.getElem?_cons_zero, List.getElem?_cons_succ, nthV, List.set_cons_zero, List.set_cons_succ, noL, popA, catS, Value.category, List.length_cons, List.length_nil, Nat.reduceLT, Nat.reduceLeDiff, true_and, and_true, one0, zer1, imp_t, imp_f, ofN_nI, sdead, f20, f21, not_true_eq_false, upC_ap, upC_upC, retC, fitC, isRefT, Option.toList_some, Option.toList_none, List.cons_append, List.nil_append, Nat.lt_add_one, Nat.zero_lt_succ, Nat.le_refl, Nat.add_zero, Nat.zero_add, Nat.one_ne_zero, Nat.zero_ne_one, Nat.lt_irrefl, List.length_set, fa_X6_stillFine, hi, hd, hQ, mr_X6_stillFine]
  exact loop (tn S) 0 n z f _ _ (by omega) hW (FRM.refl _ _ _) (Nat.le_refl _)
theorem t_findSending (hG : Ok G) (hd1 : 6 ≤ d) (hS : VS S) (hW : CW S L lp N Z K f n z) (hT : TV f a) (ht : t < tn S) : Tr G d 80 [.ref 28, .int (nI t)] n z f (fun v n' z' f' => v = none ∧ CW S L lp N Z K f' n' z' ∧ (∃ a', TV f' a' ∧ a' 4 = bye (S 2 t).toNatClampNeg (snS S L t 100) ∧ a' 5 = mst (snS S L t 100)) ∧ FRM FT f n f' ∧ n ≤ n') := by
  have hB := hS.1.1
  obtain ⟨⟨b1, b2⟩, ⟨b3, b4⟩, -⟩ := id hB
  unfold TV at hT
  have hct : (nI t).toNatClampNeg = t := nI_clamp (by omega)
  have hit : vp_in (nI t) 10 := (vin_nI (by omega)).mpr (by omega)
  obtain ⟨hm, hm1, hm2⟩ := hS.home ht
  have hm100 := hm1.1.1
  have hcm : (S 2 t).toNatClampNeg = hm := by rw [hm2, nI_clamp (by omega)]
  rw [hcm]
  refine Tr.of2 (ls0 := [.ref 28, .int (nI t), dead, dead, dead]) hG mo_X6_findSending (Nat.le_of_ble_eq_true rfl) rfl ?_
  intro X hi hd hXn hXz hXf hQ
  have loop : ∀ k' k n' z' g a' y u4, k + k' = 100 → VS (upS S 2 t y) → CW (upS S 2 t y) L lp N Z K g n' z' → TV g a' → a' 4 = bye hm (snS S L t k) → a' 5 = mst (snS S L t k) → FRM FT f n g → n ≤ n' → V G X 22 [.ref 28, .int (nI t), .int (S 2 t), .int (nI k), u4] [] n' z' g := by
    intro k'
    induction k' with
    | zero =>
      intro k n' z' g a' y u4 hk hV' hW' hT' e4 e5 hF' hn'
      have : k = 100 := by omega
      subst this
      have t1 := hT'
      unfold TV at t1
      obtain ⟨c1, -, ya, -, -, -, -, -, -, -, -, c3, -, -⟩ := id hW'.1
      refine wp_sound (by rw [hi]; exact ok_X6_findSending) (hd := [22, 46, 70]) 400 _ _ _ _ _ _ ?_
      simp only [wp, stp, List.mem_cons, List.not_mem_nil, Nat.reduceEqDiff, or_false, or_self, false_or, or_true, true_or, Nat.reduceAdd, ↓reduceIte, List.getElem?_cons_zero, List.getElem?_cons_succ, nthV, List.set_cons_zero, List.set_cons_succ, noL, popA, catS, Value.category, List.length_cons, List.length_nil, Nat.reduceLT, Nat.reduceLeDiff, true_and, and_true, one0, zer1, imp_t, imp_f, ofN_nI, sdead, f20, f21, not_true_eq_false, upC_ap, upC_upC, retC, fitC, isRefT, Option.toList_some, Option.toList_none, List.cons_append, List.nil_append, Nat.lt_add_one, Nat.zero_lt_succ, Nat.le_refl, Nat.add_zero, Nat.zero_add, Nat.one_ne_zero, Nat.zero_ne_one, Nat.lt_irrefl, List.length_set, fa_X6_findSending, hi, hd, hQ, mr_X6_findSending, t1, c1, c3, hct]
      have := hW'.mv (t := t) (v := S 2 t) c3
      rw [upS_back] at this
      exact ⟨fun _ => ⟨hit, this, ⟨a', hT'.cong (upC_ne _ _ (by omega)), e4, e5⟩, hF'.up (by omega) (by simp), hn'⟩, fun h => absurd (Int32.le_refl _) h⟩
    | succ k' ih =>
      intro k n' z' g a' y u4 hk hV' hW' hT' e4 e5 hF' hn'
      have t1 := hT'
      unfold TV at t1
      obtain ⟨c1, -, ya, fam, -, -, -, -, -, -, -, c3, -, c4, c4', -⟩ := id hW'.1
      have e3 : fam t = S 3 t := (c4' t ht).trans (by rw [upS_row (by omega)])
      have h92 : ∀ n' z' g a' y u4, VS (upS S 2 t y) → CW (upS S 2 t y) L lp N Z K g n' z' → TV g a' → a' 4 = bye hm (snS S L t (k + 1)) → a' 5 = mst (snS S L t (k + 1)) → FRM FT f n g → n ≤ n' → V G X 92 [.ref 28, .int (nI t), .int (S 2 t), .int (nI k), u4] [] n' z' g := by
        intro n' z' g a' y u4 q0 q1 q2 q3 q4 q5 q6
        refine wp_sound (by rw [hi]; exact ok_X6_findSending) (hd := [22, 46, 70]) 400 _ _ _ _ _ _ ?_
        simp only [wp, stp, List.mem_cons, List.not_mem_nil, Nat.reduceEqDiff, or_false, or_self, false_or, or_true, true_or, Nat.reduceAdd, ↓reduceIte, List.getElem?_cons_zero, List.getElem?_cons_succ, nthV, List.set_cons_zero, List.set_cons_succ, noL, popA, catS, Value.category, List.length_cons, List.length_nil, Nat.reduceLT, Nat.reduceLeDiff, true_and, and_true, one0, zer1, imp_t, imp_f, ofN_nI, sdead, f20, f21, not_true_eq_false, upC_ap, upC_upC, retC, fitC, isRefT, Option.toList_some, Option.toList_none, List.cons_append, List.nil_append, Nat.lt_add_one, Nat.zero_lt_succ, Nat.le_refl, Nat.add_zero, Nat.zero_add, Nat.one_ne_zero, Nat.zero_ne_one, Nat.lt_irrefl, List.length_set, fa_X6_findSending, hi, hd, hQ, mr_X6_findSending]
        try simp only [m1f]
        try simp (disch := omega) only [nmod, nI_leI, nI_ltI, nI_eq, nI_clamp, vin_nI, nI_1, fa_lit, nI_add, nI_rm3, nI_rm2, pk_rem, pk_mul, pk_sub, pk_div, nI_eM, nI_Me, nI_pM, nI_pMz, nI_pM0, M1_lt, M1_le, nI_ltM, nI_leM, i8_nI, true_and, and_true, false_implies, true_implies, not_false_eq_true, not_true_eq_false, ne_eq, implies_true, Nat.not_lt_zero, Nat.zero_le, ite_min, max0, Nat.reduceLT, Nat.reduceLeDiff, Nat.reduceEqDiff, Nat.reduceAdd, Nat.reduceMul]
        try simp only [m1u]
        exact ih (k + 1) n' z' g a' y u4 (by omega) q0 q1 q2 q3 q4 q5 q6
      refine wp_sound (by rw [hi]; exact ok_X6_findSending) (hd := [22, 46, 70, 92]) 400 _ _ _ _ _ _ ?_
      simp only [wp, stp, List.mem_cons, List.not_mem_nil, Nat.reduceEqDiff, or_false, or_self, false_or, or_true, true_or, Nat.reduceAdd, ↓reduceIte, List.getElem?_cons_zero, List.getElem?_cons_succ, nthV, List.set_cons_zero, List.set_cons_succ, noL, popA, catS, Value.category, List.length_cons, List.length_nil, Nat.reduceLT, Nat.reduceLeDiff, true_and, and_true, one0, zer1, imp_t, imp_f, ofN_nI, sdead, f20, f21, not_true_eq_false, upC_ap, upC_upC, retC, fitC, isRefT, Option.toList_some, Option.toList_none, List.cons_append, List.nil_append, Nat.lt_add_one, Nat.zero_lt_succ, Nat.le_refl, Nat.add_zero, Nat.zero_add, Nat.one_ne_zero, Nat.zero_ne_one, Nat.lt_irrefl, List.length_set, fa_X6_findSending, hi, hd, hQ, mr_X6_findSending, t1, c1, c4, hct, e3]
      refine ⟨fun h => absurd ((nI_leI (a := 100) (by omega) (by omega)).mp h) (by omega), fun _ => ⟨hit, by omega, _, t_couldStand hG (by omega) hW'.1 hV'.1.1 _ _ _, ?_⟩⟩
      rintro v n1 z1 f1 ⟨rfl, rfl, rfl, rfl⟩
      obtain ⟨bY0, kn0, fk0, fa0, ne0, hkb⟩ := hW'.kb
      unfold KV at hkb
      refine wp_sound (by rw [hi]; exact ok_X6_findSending) (hd := [22, 46, 70, 92]) 400 _ _ _ _ _ _ ?_
      simp only [wp, stp, List.mem_cons, List.not_mem_nil, Nat.reduceEqDiff, or_false, or_self, false_or, or_true, true_or, Nat.reduceAdd, ↓reduceIte, List.getElem?_cons_zero, List.getElem?_cons_succ, nthV, List.set_cons_zero, List.set_cons_succ, noL, popA, catS, Value.category, List.length_cons, List.length_nil, Nat.reduceLT, Nat.reduceLeDiff, true_and, and_true, one0, zer1, imp_t, imp_f, ofN_nI, sdead, f20, f21, not_true_eq_false, upC_ap, upC_upC, retC, fitC, isRefT, Option.toList_some, Option.toList_none, List.cons_append, List.nil_append, Nat.lt_add_one, Nat.zero_lt_succ, Nat.le_refl, Nat.add_zero, Nat.zero_add, Nat.one_ne_zero, Nat.zero_ne_one, Nat.lt_irrefl, List.length_set, fa_X6_findSending, hi, hd, hQ, mr_X6_findSending, t1, c1, c3, hct, bI_0, hkb]
      refine ⟨fun hcs => ?_, fun hcs => ?_⟩
      · have hcs : csN S t k := (cs_self ht).mp (Decidable.not_not.mp hcs)
        have hV1 : VS (upS S 2 t (nI k)) := hS.mv ht (by omega) hcs
        have hW1 := hW'.mv (t := t) (v := nI k) c3
        rw [upS_upS] at hW1
        obtain ⟨bY3, hk3⟩ := hW1.kb
        refine ⟨hit, by omega, _, t_familyPays hG (by omega) hV1.1.1 hW1 hV1.2.1 hV1.2.2.1 hk3 ht, ?_⟩
        rintro v n2 z2 f2 ⟨rfl, hW2, hk4, hF2, hn2⟩
        have t2 : f2 28 = _ := (hF2.1 28 (by omega) (by decide)).trans ((upC_ne _ _ (by omega)).trans t1)
        have hFu : FRM FT f n f2 := (hF'.up (by omega) (by simp)).trans hn' (hF2.mono (fun x hx => by simp at hx ⊢; omega))
        have hvl : famN (upS S 2 t (nI k)) L t ≤ 99990 := famN_le L t b2
        have hsuc : snS S L t (k + 1) = amx (fun c => csN S t c) (fun c => famN (upS S 2 t (nI c)) L t) (k + 1) := rfl
        have hcur : snS S L t k = amx (fun c => csN S t c) (fun c => famN (upS S 2 t (nI c)) L t) k := rfl
        have hbd : ∀ q, snS S L t k = some q → q.2 ≤ 99990 := fun q hq => by
          rw [(amx_in hq).2.2]; exact famN_le L t b2
        obtain ⟨vk, hvk⟩ : ∃ vk, vk = famN (upS S 2 t (nI k)) L t := ⟨_, rfl⟩
        rw [← hvk] at hvl ⊢
        refine wp_sound (by rw [hi]; exact ok_X6_findSending) (hd := [22, 46, 70, 92]) 400 _ _ _ _ _ _ ?_
        simp only [wp, stp, List.mem_cons, List.not_mem_nil, Nat.reduceEqDiff, or_false, or_self, false_or, or_true, true_or, Nat.reduceAdd, ↓reduceIte, List.getElem?_cons_zero, List.getElem?_cons_succ, nthV, List.set_cons_zero, List.set_cons_succ, noL, popA, catS, Value.category, List.length_cons, List.length_nil, Nat.reduceLT, Nat.reduceLeDiff, true_and, and_true, one0, zer1, imp_t, imp_f, ofN_nI, sdead, f20, f21, not_true_eq_false, upC_ap, upC_upC, retC, fitC, isRefT, Option.toList_some, Option.toList_none, List.cons_append, List.nil_append, Nat.lt_add_one, Nat.zero_lt_succ, Nat.le_refl, Nat.add_zero, Nat.zero_add, Nat.one_ne_zero, Nat.zero_ne_one, Nat.lt_irrefl, List.length_set, fa_X6_findSending, hi, hd, hQ, mr_X6_findSending, t2]
        refine ⟨fun hle => ?_, fun hle => ?_⟩
        · have hno : snS S L t (k + 1) = snS S L t k := by
            rw [hsuc, hcur]
            refine amx_no (fun _ => ?_)
            rw [← hcur, ← hvk]
            cases er : snS S L t k with
            | none =>
              rw [e5, er] at hle
              exact absurd hle (by show ¬ nI vk ≤ M1; rw [nI_leM (by omega)]; exact id)
            | some q =>
              refine ⟨q, rfl, ?_⟩
              have := hbd q er
              rw [e5, er] at hle
              exact (nI_leI (by omega) (by omega)).mp hle
          exact h92 _ _ _ a' _ _ hV1 hW2 t2 (by rw [hno]; exact e4) (by rw [hno]; exact e5) hFu (by omega)
        · have eN : snS S L t (k + 1) = some (k, vk) := by
            rw [hsuc, amx_yes hcs (fun q hq => ?_), ← hvk]
            rw [← hcur] at hq
            have := hbd q hq
            rw [e5, hq] at hle
            have hle : ¬ nI vk ≤ nI q.2 := hle
            rw [nI_leI (by omega) (by omega)] at hle
            rw [← hvk]; omega
          refine h92 _ _ _ (upd (upd a' 5 (nI vk)) 4 (nI k)) _ _ hV1 (hW2.lo (by omega) (by omega)) (upC_self _ _ _) ?_ ?_ (hFu.up (by omega) (by simp)) (by omega)
          · rw [eN]; rfl
          · rw [eN]; rfl
      · have hcs : ¬ csN S t k := fun q => hcs ((cs_self ht).mpr q)
        have hno : snS S L t (k + 1) = snS S L t k := amx_no (fun q => absurd q hcs)
        exact h92 _ _ _ a' _ _ hV' hW' hT' (by rw [hno]; exact e4) (by rw [hno]; exact e5) hF' hn'
  obtain ⟨c1, -, ya, fam, -, -, -, -, -, -, -, c3, c3', -⟩ := id hW.1
  have e3 : ya t = S 2 t := c3' t ht
  refine wp_sound (by rw [hi]; exact ok_X6_findSending) (hd := [22, 46, 70]) 400 _ _ _ _ _ _ ?_
  simp only [wp, stp, List.mem_cons, List.not_mem_nil, Nat.reduceEqDiff, or_false, or_self, false_or, or_true, true_or, Nat.reduceAdd, ↓reduceIte, List.getElem?_cons_zero, List.getElem?_cons_succ, nthV, List.set_cons_zero, List.set_cons_succ, noL, popA, catS, Value.category, List.length_cons, List.length_nil, Nat.reduceLT, Nat.reduceLeDiff, true_and, and_true, one0, zer1, imp_t, imp_f, ofN_nI, sdead, f20, f21, not_true_eq_false, upC_ap, upC_upC, retC, fitC, isRefT, Option.toList_some, Option.toList_none, List.cons_append, List.nil_append, Nat.lt_add_one, Nat.zero_lt_succ, Nat.le_refl, Nat.add_zero, Nat.zero_add, Nat.one_ne_zero, Nat.zero_ne_one, Nat.lt_irrefl, List.length_set, fa_X6_findSending, hi, hd, hQ, mr_X6_findSending, hT, c1, c3, hct, e3]
  refine ⟨hit, loop 100 0 n z _ (upd (upd a 4 (S 2 t)) 5 (-1)) (S 2 t) _ rfl (by rw [upS_id]; exact hS) (by rw [upS_id]; exact hW.lo (by omega) (by omega)) (upC_self _ _ _) hm2 rfl ((FRM.refl _ _ _).up (by omega) (by simp)) (Nat.le_refl _)⟩
end Th3
