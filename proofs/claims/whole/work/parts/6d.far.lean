-- FarFromAnybody: men and tents
set_option maxRecDepth 100000
set_option maxHeartbeats 4000000
section X8c
variable {G : Gam} {d : Nat} {S S' : Sta} {L : Lw} {lp N Z K n n' z z' tl i : Nat} {ro to ko : Option Nat} {tb : Nat → Nat} {fk fp : Int32} {kp : Option (Sta × Lw)} {f f' : Mf}
theorem first1_not {p : Nat → Prop} [DecidablePred p] {k m : Nat} (h : first1 p k 0 = -1) (hk : k < 1000000) (hm : m < k) : ¬ p m := fun hp => by
  -- the least that holds is found
  have key : ∀ k i, i ≤ m → m < i + k → i + k < 1000000 → ¬ first1 p k i = -1 := by
    intro k
    induction k with
    | zero => intro i h1 h2; omega
    | succ k ih =>
      intro i h1 h2 h3 e
      rw [first1] at e
      by_cases q : p i
      · rw [if_pos q] at e; exact nI_em (by omega) |>.mp e
      · rw [if_neg q] at e
        exact ih (i + 1) (by rcases Nat.lt_or_ge i m with r | r; omega; exact absurd (by rw [show i = m by omega]; exact hp) q) (by omega) (by omega) e
  exact key k 0 (by omega) (by omega) (by omega) h
theorem Vk.man (h : Vk S) {c : Nat} (hc : c < 100) (hf : frS S (nI c)) (hm : mn S < 5) : Vk (manS S c) := by
  obtain ⟨b1, b2, b3⟩ := manS_ok h.1 hc hf.1
  have hB := h.1.1.1
  have em := manS_mn (c := c) hB
  have et := manS_tn (S := S) (c := c)
  have e0 : ∀ i, ¬ i = 4 → manS S c 0 i = S 0 i := fun i hi => by unfold manS; rw [upS_0 hi, upS_row (by omega)]
  have er : ∀ j, ¬ j = 0 → ¬ j = 8 → manS S c j = S j := fun j h1 h2 => by unfold manS; rw [upS_row h1, upS_row h2]
  have e8 : ∀ i, manS S c 8 i = if i = mn S then nI c else S 8 i := fun i => by unfold manS; rw [upS_row (by omega), upS_ap]; simp only [true_and]
  refine ⟨⟨⟨b1, by omega⟩, b2, b3, fun t ht => ?_, by rw [e0 6 (by omega)]; exact h.1.2.2.2.2.1, by rw [e0 7 (by omega)]; exact h.1.2.2.2.2.2.1, by rw [er 1 (by omega) (by omega)]; exact h.1.2.2.2.2.2.2⟩, by rw [e0 8 (by omega)]; exact h.2⟩
  rw [et] at ht
  obtain ⟨⟨s1, s2⟩, s3⟩ := h.1.2.2.2.1 t ht
  have hne : ¬ S 2 t = nI c := first1_not hf.2.1 (by have := hB.1.2; omega) ht
  rw [er 2 (by omega) (by omega), er 3 (by omega) (by omega)]
  refine ⟨⟨?_, ?_⟩, fun o ho => ?_⟩
  · unfold grS inS at s1 ⊢
    rw [e0 0 (by omega), e0 1 (by omega), er 1 (by omega) (by omega)]; exact s1
  · refine first1_no _ _ (fun m h1 h2 q => ?_)
    rw [em] at h2
    rw [e8] at q
    by_cases r : m = mn S
    · rw [if_pos r] at q; exact hne q.symm
    · rw [if_neg r] at q
      exact first1_not (p := fun t' => S 8 t' = S 2 t) s2 (by omega) (show m < mn S by omega) q
  · rw [et] at ho
    have := s3 o ho
    unfold clS at this ⊢
    rw [er 2 (by omega) (by omega), er 3 (by omega) (by omega)]; exact this
theorem t8_man (hG : Ok G) (hd1 : 3 ≤ d) (h : XM S L lp N Z K ro to ko tb tl fk fp kp f n z) (y : Int32) : Tr G d 93 [.ref 0, .int y] n z f (XQ (if ¬ 5 ≤ S 0 4 ∧ frS S y then manS S y.toNatClampNeg else S) L lp N Z K ro to ko tb tl fk fp kp f (if ¬ 5 ≤ S 0 4 ∧ frS S y then S 0 4 else -1)) := by
  have a0 := h.o
  obtain ⟨a1, kd, ya, fa, mo, co, mv, tp, my, -, -, -, -, -, -, -, -, -, -, -, -, -, -, a9, -⟩ := id h.cr
  have b4 := h.bd.2.1
  have hm5 := h.vk.1.1.2
  have hmm : (nI (mn S)).toNatClampNeg = mn S := nI_clamp (by omega)
  refine Tr.of2 (ls0 := [.ref 0, .int y]) hG mo_X8_man (Nat.le_of_ble_eq_true rfl) rfl ?_
  intro X hi hd hXn hXz hXf hQ
  refine wp_sound (by rw [hi]; exact ok_X8_man) (hd := [19]) 400 _ _ _ _ _ _ ?_
  simp only [wp, stp, List.mem_cons, List.not_mem_nil, Nat.reduceEqDiff, or_false, or_self, false_or, or_true, true_or, Nat.reduceAdd, ↓reduceIte, List.getElem?_cons_zero, List.getElem?_cons_succ, nthV, List.set_cons_zero, List.set_cons_succ, noL, popA, catS, Value.category, List.length_cons, List.length_nil, Nat.reduceLT, Nat.reduceLeDiff, true_and, and_true, one0, zer1, imp_t, imp_f, ofN_nI, sdead, f20, f21, not_true_eq_false, upC_ap, upC_upC, retC, fitC, isRefT, Option.toList_some, Option.toList_none, List.cons_append, List.nil_append, Nat.lt_add_one, Nat.zero_lt_succ, Nat.le_refl, Nat.add_zero, Nat.zero_add, Nat.one_ne_zero, Nat.zero_ne_one, Nat.lt_irrefl, List.length_set, fa_X8_man, hi, hd, hQ, mr_X8_man, a0, a1]
  have no : ∀ {p : Prop} [Decidable p], ¬ p → XQ (if p then manS S y.toNatClampNeg else S) L lp N Z K ro to ko tb tl fk fp kp f (if p then S 0 4 else -1) (some (.int (-1))) n z f := fun q => by
    rw [if_neg q, if_neg q]; exact ⟨rfl, h, RFX.refl f⟩
  refine ⟨fun q => no (fun q2 => q2.1 q), fun q => ⟨by omega, _, t_freeForMan hG (by omega) h.cr h.bd y, ?_⟩⟩
  rintro r n2 z2 f2 ⟨rfl, rfl, rfl, rfl⟩
  by_cases q2 : frS S y
  · rw [if_pos ⟨q, q2⟩, if_pos ⟨q, q2⟩] at hQ
    rw [bI_t q2]
    obtain ⟨c, hc, rfl⟩ := inS_nI q2.1.1
    have hm : mn S < 5 := by
      rcases Nat.lt_or_ge (mn S) 5 with r | r
      · exact r
      · exact absurd (by rw [b4.1]; exact (nI_leI (a := 5) (by omega) (by omega)).mpr r) q
    rw [nI_clamp (by omega)] at hQ
    have hX := h.camp (h.vk.man hc q2 hm) (by unfold manS; rw [upS_0 (by omega), upS_row (by omega)]) (by unfold manS; rw [upS_0 (by omega), upS_row (by omega)]) (by unfold manS; rw [upS_row (by omega), upS_row (by omega)]) (h.cr.man h.bd a9 c) (fun x hx => by rw [upC_ne _ _ (by omega), upC_ne _ _ (by omega)])
    refine wp_sound (by rw [hi]; exact ok_X8_man) (hd := [19]) 400 _ _ _ _ _ _ ?_
    simp only [wp, stp, List.mem_cons, List.not_mem_nil, Nat.reduceEqDiff, or_false, or_self, false_or, or_true, true_or, Nat.reduceAdd, ↓reduceIte, List.getElem?_cons_zero, List.getElem?_cons_succ, nthV, List.set_cons_zero, List.set_cons_succ, noL, popA, catS, Value.category, List.length_cons, List.length_nil, Nat.reduceLT, Nat.reduceLeDiff, true_and, and_true, one0, zer1, imp_t, imp_f, ofN_nI, sdead, f20, f21, not_true_eq_false, upC_ap, upC_upC, retC, fitC, isRefT, Option.toList_some, Option.toList_none, List.cons_append, List.nil_append, Nat.lt_add_one, Nat.zero_lt_succ, Nat.le_refl, Nat.add_zero, Nat.zero_add, Nat.one_ne_zero, Nat.zero_ne_one, Nat.lt_irrefl, List.length_set, fa_X8_man, hi, hd, hQ, mr_X8_man, a0, a1, a9]
    have e : S 0 4 + 1 - 1 = S 0 4 := by
      rw [b4.1, nI_1]
      show nI (mn S + 1) - nI 1 = nI (mn S)
      rw [pk_sub (by omega), Nat.add_sub_cancel]
    rw [e]
    exact ⟨by rw [b4.1]; exact (vin_nI (by omega)).mpr (by omega), rfl, hX⟩
  · rw [if_neg (fun q3 => q2 q3.2), if_neg (fun q3 => q2 q3.2)] at hQ
    refine wp_sound (by rw [hi]; exact ok_X8_man) (hd := [19]) 400 _ _ _ _ _ _ ?_
    simp only [wp, stp, List.mem_cons, List.not_mem_nil, Nat.reduceEqDiff, or_false, or_self, false_or, or_true, true_or, Nat.reduceAdd, ↓reduceIte, List.getElem?_cons_zero, List.getElem?_cons_succ, nthV, List.set_cons_zero, List.set_cons_succ, noL, popA, catS, Value.category, List.length_cons, List.length_nil, Nat.reduceLT, Nat.reduceLeDiff, true_and, and_true, one0, zer1, imp_t, imp_f, ofN_nI, sdead, f20, f21, not_true_eq_false, upC_ap, upC_upC, retC, fitC, isRefT, Option.toList_some, Option.toList_none, List.cons_append, List.nil_append, Nat.lt_add_one, Nat.zero_lt_succ, Nat.le_refl, Nat.add_zero, Nat.zero_add, Nat.one_ne_zero, Nat.zero_ne_one, Nat.lt_irrefl, List.length_set, fa_X8_man, hi, hd, hQ, mr_X8_man, bI_f q2]
    first | exact ⟨rfl, h, RFX.refl _⟩ | exact fun _ => ⟨rfl, h, RFX.refl _⟩
theorem Vk.pit (h : Vk S) {y fm md : Int32} (ht : tn S < 10) (hcs : csS S y (-1) fm) : Vk (pitS S y fm md) := by
  obtain ⟨⟨⟨hB, hm5⟩, hV, hN, hSt, h5, h6, h7⟩, h8⟩ := h
  obtain ⟨c, hc, ey⟩ := inS_nI hcs.1.1.1
  have hgs : gsN S c := (gr_gs hB hc).mp (by rw [← ey]; exact hcs.1.1)
  have b1 := hB.1.1
  have et : tn (pitS S y fm md) = tn S + 1 := by
    show (if 0 = 0 then (if 3 = 3 then S 0 3 + 1 else S 0 3) else _).toNatClampNeg = _
    rw [if_pos rfl, if_pos rfl, b1, nI_1, nI_clamp (by omega)]
  have em : mn (pitS S y fm md) = mn S := rfl
  have e03 : pitS S y fm md 0 3 = nI (tn S + 1) := by
    show S 0 3 + 1 = _
    rw [b1, nI_1]
  have er : ∀ a t, ¬ a = 0 → ¬ t = tn S → pitS S y fm md a t = S a t := fun a t ha hb => by unfold pitS; rw [if_neg ha, if_neg hb]
  have e1 : pitS S y fm md 1 = S 1 := by funext b; unfold pitS; rw [if_neg (by omega)]; split <;> rfl
  have e8 : pitS S y fm md 8 = S 8 := by funext b; unfold pitS; rw [if_neg (by omega)]; split <;> rfl
  have e2 : pitS S y fm md 2 (tn S) = y := by unfold pitS; rw [if_neg (by omega), if_pos rfl, if_pos rfl]
  have e3 : pitS S y fm md 3 (tn S) = fm := by unfold pitS; rw [if_neg (by omega), if_pos rfl, if_neg (by omega), if_pos rfl]
  have egs : ∀ x, gsN (pitS S y fm md) x ↔ gsN S x := fun x => by unfold gsN; rw [e1]; rfl
  have egr : ∀ x, grS (pitS S y fm md) x ↔ grS S x := fun x => by unfold grS inS; rw [e1]; rfl
  have ema : ∀ x, manAtS (pitS S y fm md) x = manAtS S x := fun x => by unfold manAtS; rw [em, e8]
  refine ⟨⟨⟨⟨⟨by rw [et]; exact e03, by omega⟩, hB.2.1, hB.2.2⟩, hm5⟩, fun o ho => ?_, fun t htt => ?_, fun t htt => ?_, h5, h6, by rw [e1]; exact h7⟩, h8⟩
  · rw [et, em] at ho
    have key : ybS (pitS S y fm md) o = if o = tn S then y else if o < tn S then ybS S o else ybS S (o - 1) := by
      unfold ybS
      rw [et, em, e8]
      by_cases q1 : o = tn S
      · rw [if_pos q1, if_pos (by omega), q1, e2]
      · by_cases q2 : o < tn S
        · rw [if_pos (by omega), if_neg q1, if_pos q2, if_pos q2, er 2 o (by omega) q1]
        · rw [if_neg (by omega), if_neg q1, if_neg q2, if_neg (show ¬ o - 1 < tn S by omega)]
          by_cases q3 : o < tn S + 1 + mn S
          · rw [if_pos q3, if_pos (show o - 1 < tn S + mn S by omega), show o - (tn S + 1) = o - 1 - tn S by omega]
          · rw [if_neg q3, if_neg (show ¬ o - 1 < tn S + mn S by omega)]; rfl
    rw [key]
    have lift : ∀ {v : Int32}, (v = -1 ∨ ∃ c, gsN S c ∧ v = nI c) → v = -1 ∨ ∃ c, gsN (pitS S y fm md) c ∧ v = nI c := fun {v} hh => by
      rcases hh with r | ⟨x, r1, r2⟩
      · exact Or.inl r
      · exact Or.inr ⟨x, (egs x).mpr r1, r2⟩
    by_cases q1 : o = tn S
    · rw [if_pos q1]; exact Or.inr ⟨c, (egs c).mpr hgs, ey⟩
    · rw [if_neg q1]
      by_cases q2 : o < tn S
      · rw [if_pos q2]; exact lift (hV o (by omega))
      · rw [if_neg q2]; exact lift (hV (o - 1) (by omega))
  · rw [et] at htt
    by_cases q : t = tn S
    · rw [q, e2, ey, nI_em (by omega)]; exact id
    · rw [er 2 t (by omega) q]; exact hN t (by omega)
  · rw [et] at htt
    by_cases q : t = tn S
    · rw [q, e2, e3]
      refine ⟨⟨(egr y).mpr hcs.1.1, by rw [ema]; exact hcs.1.2⟩, fun o ho => ?_⟩
      rw [et] at ho
      by_cases q2 : o = tn S
      · rw [q2]; exact fun z => z.1.1 rfl
      · have := hcs.2 o (by omega)
        unfold clS at this ⊢
        rw [er 2 o (by omega) q2, er 3 o (by omega) q2]
        exact fun z => this ⟨⟨by rw [nI_em (by omega)]; exact id, z.1.2⟩, z.2⟩
    · rw [er 2 t (by omega) q, er 3 t (by omega) q]
      obtain ⟨⟨s1, s2⟩, s3⟩ := hSt t (by omega)
      refine ⟨⟨(egr _).mpr s1, by rw [ema]; exact s2⟩, fun o ho => ?_⟩
      rw [et] at ho
      by_cases q2 : o = tn S
      · rw [q2]
        have := hcs.2 t (by omega)
        unfold clS at this ⊢
        rw [e2, e3]
        rintro ⟨⟨z1, z2⟩, z3⟩
        refine this ⟨⟨by rw [nI_em (by omega)]; exact id, z2.symm⟩, ?_⟩
        rcases z3 with z3 | z3
        · by_cases q4 : fm = 0
          · exact Or.inl q4
          · exact Or.inr (fun q5 => q4 (q5.symm.trans z3))
        · exact Or.inr (fun q5 => z3 q5.symm)
      · have := s3 o (by omega)
        unfold clS at this ⊢
        rw [er 2 o (by omega) q2, er 3 o (by omega) q2]
        exact this
/-- a tent may be pitched -/
abbrev tnP (S : Sta) (y fm md : Int32) : Prop := (¬ 10 ≤ S 0 3 ∧ ¬ fm < 0 ∧ ¬ 9 < fm ∧ ¬ md < 0 ∧ ¬ 3 < md) ∧ csS S y (-1) fm
theorem t8_tent (hG : Ok G) (hd1 : 3 ≤ d) (h : XM S L lp N Z K ro to ko tb tl fk fp kp f n z) (y fm md : Int32) : Tr G d 92 [.ref 0, .int y, .int fm, .int md] n z f (XQ (if tnP S y fm md then pitS S y fm md else S) L lp N Z K ro to ko tb tl fk fp kp f (if tnP S y fm md then S 0 3 else -1)) := by
  have a0 := h.o
  have a1 := h.cr.at
  have b3 := h.bd.1
  refine Tr.of2 (ls0 := [.ref 0, .int y, .int fm, .int md]) hG mo_X8_tent (Nat.le_of_ble_eq_true rfl) rfl ?_
  intro X hi hd hXn hXz hXf hQ
  have no : ¬ tnP S y fm md → XQ (if tnP S y fm md then pitS S y fm md else S) L lp N Z K ro to ko tb tl fk fp kp f (if tnP S y fm md then S 0 3 else -1) (some (.int (-1))) n z f := fun q => by
    rw [if_neg q, if_neg q]; exact ⟨rfl, h, RFX.refl f⟩
  refine wp_sound (by rw [hi]; exact ok_X8_tent) (hd := [26, 41, 54]) 400 _ _ _ _ _ _ ?_
  simp only [wp, stp, List.mem_cons, List.not_mem_nil, Nat.reduceEqDiff, or_false, or_self, false_or, or_true, true_or, Nat.reduceAdd, ↓reduceIte, List.getElem?_cons_zero, List.getElem?_cons_succ, nthV, List.set_cons_zero, List.set_cons_succ, noL, popA, catS, Value.category, List.length_cons, List.length_nil, Nat.reduceLT, Nat.reduceLeDiff, true_and, and_true, one0, zer1, imp_t, imp_f, ofN_nI, sdead, f20, f21, not_true_eq_false, upC_ap, upC_upC, retC, fitC, isRefT, Option.toList_some, Option.toList_none, List.cons_append, List.nil_append, Nat.lt_add_one, Nat.zero_lt_succ, Nat.le_refl, Nat.add_zero, Nat.zero_add, Nat.one_ne_zero, Nat.zero_ne_one, Nat.lt_irrefl, List.length_set, fa_X8_tent, hi, hd, hQ, mr_X8_tent, a0, a1]
  refine ⟨fun q => no (fun q2 => q2.1.1 q), fun q => ⟨fun q1 => no (fun q2 => q2.1.2.1 q1), fun q1 => ⟨fun q3 => no (fun q2 => q2.1.2.2.1 q3), fun q3 => ⟨by omega, _, t8_isMode hG md, ?_⟩⟩⟩⟩
  rintro r n2 z2 f2 ⟨rfl, rfl, rfl, rfl⟩
  refine wp_sound (by rw [hi]; exact ok_X8_tent) (hd := [26, 41, 54]) 400 _ _ _ _ _ _ ?_
  simp only [wp, stp, List.mem_cons, List.not_mem_nil, Nat.reduceEqDiff, or_false, or_self, false_or, or_true, true_or, Nat.reduceAdd, ↓reduceIte, List.getElem?_cons_zero, List.getElem?_cons_succ, nthV, List.set_cons_zero, List.set_cons_succ, noL, popA, catS, Value.category, List.length_cons, List.length_nil, Nat.reduceLT, Nat.reduceLeDiff, true_and, and_true, one0, zer1, imp_t, imp_f, ofN_nI, sdead, f20, f21, not_true_eq_false, upC_ap, upC_upC, retC, fitC, isRefT, Option.toList_some, Option.toList_none, List.cons_append, List.nil_append, Nat.lt_add_one, Nat.zero_lt_succ, Nat.le_refl, Nat.add_zero, Nat.zero_add, Nat.one_ne_zero, Nat.zero_ne_one, Nat.lt_irrefl, List.length_set, fa_X8_tent, hi, hd, hQ, mr_X8_tent, bI_0, a0, a1]
  refine ⟨fun q4 => ⟨by omega, _, t_couldStand hG (by omega) h.cr h.bd y (-1) fm, ?_⟩, fun q4 => no (fun q2 => q4 q2.1.2.2.2)⟩
  rintro r n2 z2 f2 ⟨rfl, rfl, rfl, rfl⟩
  have q4 := Decidable.not_not.mp q4
  by_cases q5 : csS S y (-1) fm
  · have hp : tnP S y fm md := ⟨⟨q, q1, q3, q4⟩, q5⟩
    have ht : tn S < 10 := by
      rcases Nat.lt_or_ge (tn S) 10 with r | r
      · exact r
      · exact absurd (by rw [b3.1]; exact (nI_leI (a := 10) (by omega) (by omega)).mpr r) q
    rw [if_pos hp, if_pos hp] at hQ
    rw [bI_t q5]
    refine wp_sound (by rw [hi]; exact ok_X8_tent) (hd := [26, 41, 54]) 400 _ _ _ _ _ _ ?_
    simp only [wp, stp, List.mem_cons, List.not_mem_nil, Nat.reduceEqDiff, or_false, or_self, false_or, or_true, true_or, Nat.reduceAdd, ↓reduceIte, List.getElem?_cons_zero, List.getElem?_cons_succ, nthV, List.set_cons_zero, List.set_cons_succ, noL, popA, catS, Value.category, List.length_cons, List.length_nil, Nat.reduceLT, Nat.reduceLeDiff, true_and, and_true, one0, zer1, imp_t, imp_f, ofN_nI, sdead, f20, f21, not_true_eq_false, upC_ap, upC_upC, retC, fitC, isRefT, Option.toList_some, Option.toList_none, List.cons_append, List.nil_append, Nat.lt_add_one, Nat.zero_lt_succ, Nat.le_refl, Nat.add_zero, Nat.zero_add, Nat.one_ne_zero, Nat.zero_ne_one, Nat.lt_irrefl, List.length_set, fa_X8_tent, hi, hd, hQ, mr_X8_tent, a0, a1]
    refine ⟨by omega, _, t_pitch hG h.bd ht h.cr y fm md, ?_⟩
    rintro r n3 z3 f3 ⟨rfl, rfl, rfl, hC, hf⟩
    have hX := h.camp (h.vk.pit ht q5 (md := md)) rfl rfl (by funext b; unfold pitS; rw [if_neg (by omega)]; split <;> rfl) hC (fun x hx => hf x (by omega))
    refine wp_sound (by rw [hi]; exact ok_X8_tent) (hd := [26, 41, 54]) 400 _ _ _ _ _ _ ?_
    simp only [wp, stp, List.mem_cons, List.not_mem_nil, Nat.reduceEqDiff, or_false, or_self, false_or, or_true, true_or, Nat.reduceAdd, ↓reduceIte, List.getElem?_cons_zero, List.getElem?_cons_succ, nthV, List.set_cons_zero, List.set_cons_succ, noL, popA, catS, Value.category, List.length_cons, List.length_nil, Nat.reduceLT, Nat.reduceLeDiff, true_and, and_true, one0, zer1, imp_t, imp_f, ofN_nI, sdead, f20, f21, not_true_eq_false, upC_ap, upC_upC, retC, fitC, isRefT, Option.toList_some, Option.toList_none, List.cons_append, List.nil_append, Nat.lt_add_one, Nat.zero_lt_succ, Nat.le_refl, Nat.add_zero, Nat.zero_add, Nat.one_ne_zero, Nat.zero_ne_one, Nat.lt_irrefl, List.length_set, fa_X8_tent, hi, hd, hQ, mr_X8_tent]
    exact ⟨by rw [b3.1], hX⟩
  · have no := no (fun q2 => q5 q2.2)
    refine wp_sound (by rw [hi]; exact ok_X8_tent) (hd := [26, 41, 54]) 400 _ _ _ _ _ _ ?_
    simp only [wp, stp, List.mem_cons, List.not_mem_nil, Nat.reduceEqDiff, or_false, or_self, false_or, or_true, true_or, Nat.reduceAdd, ↓reduceIte, List.getElem?_cons_zero, List.getElem?_cons_succ, nthV, List.set_cons_zero, List.set_cons_succ, noL, popA, catS, Value.category, List.length_cons, List.length_nil, Nat.reduceLT, Nat.reduceLeDiff, true_and, and_true, one0, zer1, imp_t, imp_f, ofN_nI, sdead, f20, f21, not_true_eq_false, upC_ap, upC_upC, retC, fitC, isRefT, Option.toList_some, Option.toList_none, List.cons_append, List.nil_append, Nat.lt_add_one, Nat.zero_lt_succ, Nat.le_refl, Nat.add_zero, Nat.zero_add, Nat.one_ne_zero, Nat.zero_ne_one, Nat.lt_irrefl, List.length_set, fa_X8_tent, hi, hd, hQ, mr_X8_tent, bI_f q5]
    first | exact no | exact fun _ => no
end X8c
