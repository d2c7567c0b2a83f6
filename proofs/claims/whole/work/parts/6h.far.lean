-- FarFromAnybody: evenings
set_option maxRecDepth 100000
set_option maxHeartbeats 4000000
/-- the state after so many evenings, and how many went -/
noncomputable def evI (L : Lw) (S : Sta) : Nat → Sta × Nat
  | 0 => (S, 0)
  | i + 1 => (eveS L (evI L S i).1, (evI L S i).2 + (noonS L 0 (evI L S i).1).2.2)
section X8h
variable {G : Gam} {d : Nat} {S S' : Sta} {L : Lw} {lp N Z K n n' z z' tl i : Nat} {ro to ko : Option Nat} {tb : Nat → Nat} {fk fp : Int32} {kp : Option (Sta × Lw)} {f f' : Mf}
theorem noon_cnt {th : Int32} : (noonS L th S).2.2 ≤ tn S := by
  unfold noonS
  split
  · exact nn1_cnt _
  · exact nn1_cnt _
theorem eveS_8 (hS : VS S) : eveS L S 0 8 = S 0 8 + 1 := by
  unfold eveS
  rw [upS_self, (pay1_ok (tn S)).2]
  have := (noonS_ok (L := L) (th := 0) hS).2
  rw [this.1 8 (by omega)]
theorem Vk.eve (h : Vk S) {e : Nat} (he : S 0 8 = nI e) (hb : e + 1 ≤ 9999) : Vk (eveS L S) := ⟨eveS_vs h.1, e + 1, hb, by rw [eveS_8 h.1, he, nI_1]⟩
noncomputable def evnR (S : Sta) (L : Lw) (v : Int32) : Sta × Int32 := if (¬ v < 1 ∧ ¬ 200 < v) ∧ S 0 8 + v ≤ 9999 then ((evI L S v.toNatClampNeg).1, nI (evI L S v.toNatClampNeg).2) else (S, -1)
theorem t8_evenings (hG : Ok G) (hd1 : 9 ≤ d) (h : XM S L lp N Z K ro to ko tb tl fk fp kp f n z) (v : Int32) : Tr G d 100 [.ref 0, .int v] n z f (XQ (evnR S L v).1 L lp N Z K ro to ko tb tl fk fp kp f (evnR S L v).2) := by
  have a0 := h.o
  have a1 := h.cr.at
  have hL := h.1.2
  obtain ⟨e, he, e8⟩ := h.vk.2
  refine Tr.of2 (ls0 := [.ref 0, .int v, dead, dead, dead, dead]) hG mo_X8_evenings (Nat.le_of_ble_eq_true rfl) rfl ?_
  intro X hi hd hXn hXz hXf hQ
  have no : ¬ ((¬ v < 1 ∧ ¬ 200 < v) ∧ S 0 8 + v ≤ 9999) → XQ (evnR S L v).1 L lp N Z K ro to ko tb tl fk fp kp f (evnR S L v).2 (some (.int (-1))) n z f := fun q => by
    have e : evnR S L v = (S, -1) := if_neg q
    rw [e]; exact ⟨rfl, h, RFX.refl f⟩
  by_cases q : (¬ v < 1 ∧ ¬ 200 < v) ∧ S 0 8 + v ≤ 9999
  · obtain ⟨⟨q1, q2⟩, q3⟩ := id q
    obtain ⟨m, hm, rfl⟩ : ∃ m, m ≤ 200 ∧ v = nI m := nI_of2 (M := 200) (n := 200) rfl (fun hx => q1 (by
      have : (1 : Int32).toInt = 1 := rfl
      have : (0 : Int32).toInt = 0 := rfl
      rw [Int32.lt_iff_toInt_lt] at hx ⊢; omega)) (by
      rw [Int32.lt_iff_toInt_lt] at q2; rw [Int32.le_iff_toInt_le]; omega)
    have hem : e + m ≤ 9999 := by
      rw [e8, nI_add] at q3
      exact (nI_leI (b := 9999) (by omega) (by omega)).mp q3
    have eR : evnR S L (nI m) = ((evI L S m).1, nI (evI L S m).2) := by unfold evnR; rw [if_pos q, nI_clamp (by omega)]
    have loop : ∀ r i sl f2 n2 z2 u5, i + r = m → XM (evI L S i).1 L lp N Z K ro to ko tb tl fk fp kp f2 n2 z2 → RFX f f2 → (evI L S i).1 0 8 = nI (e + i) → (sl = 0 ∨ sl = 1 ∧ StI L (evI L S i).1 ∧ ∃ wi go pa, DY f2 wi go pa ∧ ∀ t, t < tn (evI L S i).1 → pa t = nI (pyN (evI L S i).1 L 1 t)) → V G X 36 [.ref 0, .int (nI m), .int (nI (evI L S i).2), .int sl, .int (nI i), u5] [] n2 z2 f2 := by
      intro r
      induction r with
      | zero =>
        intro i sl f2 n2 z2 u5 hi' hX hR h8 hs
        have : i = m := by omega
        subst this
        rw [eR] at hQ
        have a02 := hX.o
        refine wp_sound (by rw [hi]; exact ok_X8_evenings) (hd := [36, 53, 63, 82]) 400 _ _ _ _ _ _ ?_
        simp only [wp, stp, List.mem_cons, List.not_mem_nil, Nat.reduceEqDiff, or_false, or_self, false_or, or_true, true_or, Nat.reduceAdd, ↓reduceIte, List.getElem?_cons_zero, List.getElem?_cons_succ, nthV, List.set_cons_zero, List.set_cons_succ, noL, popA, catS, Value.category, List.length_cons, List.length_nil, Nat.reduceLT, Nat.reduceLeDiff, true_and, and_true, one0, zer1, imp_t, imp_f, ofN_nI, sdead, f20, f21, not_true_eq_false, upC_ap, upC_upC, retC, fitC, isRefT, Option.toList_some, Option.toList_none, List.cons_append, List.nil_append, Nat.lt_add_one, Nat.zero_lt_succ, Nat.le_refl, Nat.add_zero, Nat.zero_add, Nat.one_ne_zero, Nat.zero_ne_one, Nat.lt_irrefl, List.length_set, fa_X8_evenings, hi, hd, hQ, mr_X8_evenings, a02]
        try simp only [m1f]
        try simp (disch := omega) only [nmod, nI_leI, nI_ltI, nI_eq, nI_clamp, vin_nI, nI_1, fa_lit, nI_add, nI_rm3, nI_rm2, pk_rem, pk_mul, pk_sub, pk_div, nI_eM, nI_Me, nI_pM, nI_pMz, nI_pM0, M1_lt, M1_le, nI_ltM, nI_leM, i8_nI, true_and, and_true, false_implies, true_implies, not_false_eq_true, not_true_eq_false, ne_eq, implies_true, Nat.not_lt_zero, Nat.zero_le, ite_min, max0, Nat.reduceLT, Nat.reduceLeDiff, Nat.reduceEqDiff, Nat.reduceAdd, Nat.reduceMul]
        try simp only [m1u]
        exact ⟨fun _ => ⟨rfl, hX, hR⟩, fun h => absurd (Nat.le_refl _) h⟩
      | succ r ih =>
        intro i sl f2 n2 z2 u5 hi' hX hR h8 hs
        obtain ⟨Si, hSi⟩ : ∃ Si, Si = (evI L S i).1 := ⟨_, rfl⟩
        obtain ⟨wn, hwn⟩ : ∃ wn, wn = (evI L S i).2 := ⟨_, rfl⟩
        have e1 : (evI L S (i + 1)).1 = eveS L Si := by rw [hSi]; rfl
        have e2 : (evI L S (i + 1)).2 = wn + (noonS L 0 Si).2.2 := by rw [hSi, hwn]; rfl
        have ih := ih (i + 1)
        rw [e1, e2] at ih
        rw [← hwn]
        rw [← hSi] at hX h8 hs
        have a02 := hX.o
        have h8' : eveS L Si 0 8 = nI (e + (i + 1)) := by rw [eveS_8 hX.vk.1, h8, nI_1]; rfl
        have hVk : Vk (eveS L Si) := hX.vk.eve h8 (by omega)
        obtain ⟨⟨a, hT⟩, ⟨wi, go, pa, hD⟩, st, h29⟩ := hX.2.2.1
        rcases hs with rfl | ⟨rfl, hSt, wi2, go2, pa2, hD2, hp2⟩
        · have hD0 : f2 24 = _ := hD.1
          refine wp_sound (by rw [hi]; exact ok_X8_evenings) (hd := [36, 53, 63, 82, 91]) 400 _ _ _ _ _ _ ?_
          simp only [wp, stp, List.mem_cons, List.not_mem_nil, Nat.reduceEqDiff, or_false, or_self, false_or, or_true, true_or, Nat.reduceAdd, ↓reduceIte, List.getElem?_cons_zero, List.getElem?_cons_succ, nthV, List.set_cons_zero, List.set_cons_succ, noL, popA, catS, Value.category, List.length_cons, List.length_nil, Nat.reduceLT, Nat.reduceLeDiff, true_and, and_true, one0, zer1, imp_t, imp_f, ofN_nI, sdead, f20, f21, not_true_eq_false, upC_ap, upC_upC, retC, fitC, isRefT, Option.toList_some, Option.toList_none, List.cons_append, List.nil_append, Nat.lt_add_one, Nat.zero_lt_succ, Nat.le_refl, Nat.add_zero, Nat.zero_add, Nat.one_ne_zero, Nat.zero_ne_one, Nat.lt_irrefl, List.length_set, fa_X8_evenings, hi, hd, hQ, mr_X8_evenings, a02, hD0]
          try simp only [m1f]
          try simp (disch := omega) only [nmod, nI_leI, nI_ltI, nI_eq, nI_clamp, vin_nI, nI_1, fa_lit, nI_add, nI_rm3, nI_rm2, pk_rem, pk_mul, pk_sub, pk_div, nI_eM, nI_Me, nI_pM, nI_pMz, nI_pM0, M1_lt, M1_le, nI_ltM, nI_leM, i8_nI, true_and, and_true, false_implies, true_implies, not_false_eq_true, not_true_eq_false, ne_eq, implies_true, Nat.not_lt_zero, Nat.zero_le, ite_min, max0, Nat.reduceLT, Nat.reduceLeDiff, Nat.reduceEqDiff, Nat.reduceAdd, Nat.reduceMul]
          try simp only [m1u]
          refine ⟨fun hx => absurd hx (by omega), fun _ => ?_⟩
          try intro _
          refine ⟨by omega, _, t_newEvening hG (by omega) hX.vk.1 hX.cw hD, ?_⟩
          rintro w n3 z3 f3 ⟨rfl, hW, ⟨wi', go', pa', hD3, hp3⟩, hF, hn⟩
          have hX3 := hX.frm hVk hW hF (by decide) hn ⟨a, hT.cong (hF.1 28 (by omega) (by decide))⟩ ⟨wi', go', pa', hD3⟩ ⟨st, by rw [hF.1 29 (by omega) (by decide)]; exact h29⟩
          have hR3 := hR.trans hX3.2
          have a03 := hX3.1.o
          have hD30 : f3 24 = _ := hD3.1
          have hcn := noon_cnt (L := L) (S := Si) (th := 0)
          have htn := hX.bd.1.2
          have L0 := fun u5 => ih 0 f3 n3 z3 u5 (by omega) hX3.1 hR3 h8' (Or.inl rfl)
          by_cases hc : (noonS L 0 Si).2.2 = 0
          · rw [hc] at L0 ih ⊢
            refine wp_sound (by rw [hi]; exact ok_X8_evenings) (hd := [36, 53, 63, 82, 91]) 400 _ _ _ _ _ _ ?_
            simp only [wp, stp, List.mem_cons, List.not_mem_nil, Nat.reduceEqDiff, or_false, or_self, false_or, or_true, true_or, Nat.reduceAdd, ↓reduceIte, List.getElem?_cons_zero, List.getElem?_cons_succ, nthV, List.set_cons_zero, List.set_cons_succ, noL, popA, catS, Value.category, List.length_cons, List.length_nil, Nat.reduceLT, Nat.reduceLeDiff, true_and, and_true, one0, zer1, imp_t, imp_f, ofN_nI, sdead, f20, f21, not_true_eq_false, upC_ap, upC_upC, retC, fitC, isRefT, Option.toList_some, Option.toList_none, List.cons_append, List.nil_append, Nat.lt_add_one, Nat.zero_lt_succ, Nat.le_refl, Nat.add_zero, Nat.zero_add, Nat.one_ne_zero, Nat.zero_ne_one, Nat.lt_irrefl, List.length_set, fa_X8_evenings, hi, hd, hQ, mr_X8_evenings, a03, hD30]
            try simp only [m1f]
            try simp (disch := omega) only [nmod, nI_leI, nI_ltI, nI_eq, nI_clamp, vin_nI, nI_1, fa_lit, nI_add, nI_rm3, nI_rm2, pk_rem, pk_mul, pk_sub, pk_div, nI_eM, nI_Me, nI_pM, nI_pMz, nI_pM0, M1_lt, M1_le, nI_ltM, nI_leM, i8_nI, true_and, and_true, false_implies, true_implies, not_false_eq_true, not_true_eq_false, ne_eq, implies_true, Nat.not_lt_zero, Nat.zero_le, ite_min, max0, Nat.reduceLT, Nat.reduceLeDiff, Nat.reduceEqDiff, Nat.reduceAdd, Nat.reduceMul]
            try simp only [m1u]
            try intro _
            refine ⟨by omega, _, t_allAlike hG hX3.1.bd hX3.1.cw hD3, ?_⟩
            rintro w n4 z4 f4 ⟨rfl, rfl, rfl, rfl⟩
            by_cases qa : (∀ t, t < tn (eveS L Si) → ¬ eveS L Si 4 t = 3) ∧ L.2.1 = 0
            · rw [bI_t qa]
              have hE : SmE Si (eveS L Si) ∧ nwh Si := by
                have r4 : eveS L Si 4 = Si 4 := by unfold eveS; rw [upS_row (by omega), (pay1_ok (tn Si)).1.2 4 (by omega) (by omega) (by omega), (noonS_ok hX.vk.1).2.2 4 (by omega) (by omega)]
                have r3 : eveS L Si 0 3 = Si 0 3 := by unfold eveS; rw [upS_0 (by omega), (pay1_ok (tn Si)).1.1 3 (by omega) (by omega), (noonS_ok hX.vk.1).2.1 3 (by omega)]
                have hw : nwh Si := fun t ht => by
                  have := qa.1 t (by unfold tn; rw [r3]; exact ht)
                  rw [r4] at this; exact this
                exact ⟨eve_sme hw hc, hw⟩
              have hSt : StI L Si := ⟨⟨hE.2, qa.2⟩, hc⟩
              have L1 := fun u5 => ih 1 f4 n4 z4 u5 (by omega) hX3.1 hR3 h8' (Or.inr ⟨rfl, hSt.next hL hE.1, wi', go', pa', hD3, fun t ht => by
                rw [hE.1.py hL qa.2, hp3 t (by rw [← hE.1.etn]; exact ht), (noon_still hE.2 hc).1]⟩)
              refine wp_sound (by rw [hi]; exact ok_X8_evenings) (hd := [36, 53, 63, 82]) 400 _ _ _ _ _ _ ?_
              simp only [wp, stp, List.mem_cons, List.not_mem_nil, Nat.reduceEqDiff, or_false, or_self, false_or, or_true, true_or, Nat.reduceAdd, ↓reduceIte, List.getElem?_cons_zero, List.getElem?_cons_succ, nthV, List.set_cons_zero, List.set_cons_succ, noL, popA, catS, Value.category, List.length_cons, List.length_nil, Nat.reduceLT, Nat.reduceLeDiff, true_and, and_true, one0, zer1, imp_t, imp_f, ofN_nI, sdead, f20, f21, not_true_eq_false, upC_ap, upC_upC, retC, fitC, isRefT, Option.toList_some, Option.toList_none, List.cons_append, List.nil_append, Nat.lt_add_one, Nat.zero_lt_succ, Nat.le_refl, Nat.add_zero, Nat.zero_add, Nat.one_ne_zero, Nat.zero_ne_one, Nat.lt_irrefl, List.length_set, fa_X8_evenings, hi, hd, hQ, mr_X8_evenings]
              try simp only [m1f]
              try simp (disch := omega) only [nmod, nI_leI, nI_ltI, nI_eq, nI_clamp, vin_nI, nI_1, fa_lit, nI_add, nI_rm3, nI_rm2, pk_rem, pk_mul, pk_sub, pk_div, nI_eM, nI_Me, nI_pM, nI_pMz, nI_pM0, M1_lt, M1_le, nI_ltM, nI_leM, i8_nI, true_and, and_true, false_implies, true_implies, not_false_eq_true, not_true_eq_false, ne_eq, implies_true, Nat.not_lt_zero, Nat.zero_le, ite_min, max0, Nat.reduceLT, Nat.reduceLeDiff, Nat.reduceEqDiff, Nat.reduceAdd, Nat.reduceMul]
              try simp only [m1u]
              exact L1 _
            · rw [bI_f qa]
              refine wp_sound (by rw [hi]; exact ok_X8_evenings) (hd := [36, 53, 63, 82]) 400 _ _ _ _ _ _ ?_
              simp only [wp, stp, List.mem_cons, List.not_mem_nil, Nat.reduceEqDiff, or_false, or_self, false_or, or_true, true_or, Nat.reduceAdd, ↓reduceIte, List.getElem?_cons_zero, List.getElem?_cons_succ, nthV, List.set_cons_zero, List.set_cons_succ, noL, popA, catS, Value.category, List.length_cons, List.length_nil, Nat.reduceLT, Nat.reduceLeDiff, true_and, and_true, one0, zer1, imp_t, imp_f, ofN_nI, sdead, f20, f21, not_true_eq_false, upC_ap, upC_upC, retC, fitC, isRefT, Option.toList_some, Option.toList_none, List.cons_append, List.nil_append, Nat.lt_add_one, Nat.zero_lt_succ, Nat.le_refl, Nat.add_zero, Nat.zero_add, Nat.one_ne_zero, Nat.zero_ne_one, Nat.lt_irrefl, List.length_set, fa_X8_evenings, hi, hd, hQ, mr_X8_evenings]
              try simp only [m1f]
              try simp (disch := omega) only [nmod, nI_leI, nI_ltI, nI_eq, nI_clamp, vin_nI, nI_1, fa_lit, nI_add, nI_rm3, nI_rm2, pk_rem, pk_mul, pk_sub, pk_div, nI_eM, nI_Me, nI_pM, nI_pMz, nI_pM0, M1_lt, M1_le, nI_ltM, nI_leM, i8_nI, true_and, and_true, false_implies, true_implies, not_false_eq_true, not_true_eq_false, ne_eq, implies_true, Nat.not_lt_zero, Nat.zero_le, ite_min, max0, Nat.reduceLT, Nat.reduceLeDiff, Nat.reduceEqDiff, Nat.reduceAdd, Nat.reduceMul]
              try simp only [m1u]
              exact L0 _
          · have hcn' : (noonS L (nI 0) Si).2.2 ≤ tn Si := hcn
            refine wp_sound (by rw [hi]; exact ok_X8_evenings) (hd := [36, 53, 63, 82, 91]) 400 _ _ _ _ _ _ ?_
            simp only [wp, stp, List.mem_cons, List.not_mem_nil, Nat.reduceEqDiff, or_false, or_self, false_or, or_true, true_or, Nat.reduceAdd, ↓reduceIte, List.getElem?_cons_zero, List.getElem?_cons_succ, nthV, List.set_cons_zero, List.set_cons_succ, noL, popA, catS, Value.category, List.length_cons, List.length_nil, Nat.reduceLT, Nat.reduceLeDiff, true_and, and_true, one0, zer1, imp_t, imp_f, ofN_nI, sdead, f20, f21, not_true_eq_false, upC_ap, upC_upC, retC, fitC, isRefT, Option.toList_some, Option.toList_none, List.cons_append, List.nil_append, Nat.lt_add_one, Nat.zero_lt_succ, Nat.le_refl, Nat.add_zero, Nat.zero_add, Nat.one_ne_zero, Nat.zero_ne_one, Nat.lt_irrefl, List.length_set, fa_X8_evenings, hi, hd, hQ, mr_X8_evenings, a03, hD30]
            try simp only [m1f]
            try simp (disch := omega) only [nmod, nI_leI, nI_ltI, nI_eq, nI_clamp, vin_nI, nI_1, fa_lit, nI_add, nI_rm3, nI_rm2, pk_rem, pk_mul, pk_sub, pk_div, nI_eM, nI_Me, nI_pM, nI_pMz, nI_pM0, M1_lt, M1_le, nI_ltM, nI_leM, i8_nI, true_and, and_true, false_implies, true_implies, not_false_eq_true, not_true_eq_false, ne_eq, implies_true, Nat.not_lt_zero, Nat.zero_le, ite_min, max0, Nat.reduceLT, Nat.reduceLeDiff, Nat.reduceEqDiff, Nat.reduceAdd, Nat.reduceMul]
            try simp only [m1u]
            refine ⟨fun _ => ?_, fun hx => absurd hx hc⟩
            refine wp_sound (by rw [hi]; exact ok_X8_evenings) (hd := [36, 53, 63, 82]) 400 _ _ _ _ _ _ ?_
            simp only [wp, stp, List.mem_cons, List.not_mem_nil, Nat.reduceEqDiff, or_false, or_self, false_or, or_true, true_or, Nat.reduceAdd, ↓reduceIte, List.getElem?_cons_zero, List.getElem?_cons_succ, nthV, List.set_cons_zero, List.set_cons_succ, noL, popA, catS, Value.category, List.length_cons, List.length_nil, Nat.reduceLT, Nat.reduceLeDiff, true_and, and_true, one0, zer1, imp_t, imp_f, ofN_nI, sdead, f20, f21, not_true_eq_false, upC_ap, upC_upC, retC, fitC, isRefT, Option.toList_some, Option.toList_none, List.cons_append, List.nil_append, Nat.lt_add_one, Nat.zero_lt_succ, Nat.le_refl, Nat.add_zero, Nat.zero_add, Nat.one_ne_zero, Nat.zero_ne_one, Nat.lt_irrefl, List.length_set, fa_X8_evenings, hi, hd, hQ, mr_X8_evenings]
            try simp only [m1f]
            try simp (disch := omega) only [nmod, nI_leI, nI_ltI, nI_eq, nI_clamp, vin_nI, nI_1, fa_lit, nI_add, nI_rm3, nI_rm2, pk_rem, pk_mul, pk_sub, pk_div, nI_eM, nI_Me, nI_pM, nI_pMz, nI_pM0, M1_lt, M1_le, nI_ltM, nI_leM, i8_nI, true_and, and_true, false_implies, true_implies, not_false_eq_true, not_true_eq_false, ne_eq, implies_true, Nat.not_lt_zero, Nat.zero_le, ite_min, max0, Nat.reduceLT, Nat.reduceLeDiff, Nat.reduceEqDiff, Nat.reduceAdd, Nat.reduceMul]
            try simp only [m1u]
            exact L0 _
        · have hD0 : f2 24 = _ := hD2.1
          have hE : SmE Si (eveS L Si) := eve_sme hSt.1.1 hSt.2
          refine wp_sound (by rw [hi]; exact ok_X8_evenings) (hd := [36, 53, 63, 82]) 400 _ _ _ _ _ _ ?_
          simp only [wp, stp, List.mem_cons, List.not_mem_nil, Nat.reduceEqDiff, or_false, or_self, false_or, or_true, true_or, Nat.reduceAdd, ↓reduceIte, List.getElem?_cons_zero, List.getElem?_cons_succ, nthV, List.set_cons_zero, List.set_cons_succ, noL, popA, catS, Value.category, List.length_cons, List.length_nil, Nat.reduceLT, Nat.reduceLeDiff, true_and, and_true, one0, zer1, imp_t, imp_f, ofN_nI, sdead, f20, f21, not_true_eq_false, upC_ap, upC_upC, retC, fitC, isRefT, Option.toList_some, Option.toList_none, List.cons_append, List.nil_append, Nat.lt_add_one, Nat.zero_lt_succ, Nat.le_refl, Nat.add_zero, Nat.zero_add, Nat.one_ne_zero, Nat.zero_ne_one, Nat.lt_irrefl, List.length_set, fa_X8_evenings, hi, hd, hQ, mr_X8_evenings, a02, hD0]
          try simp only [m1f]
          try simp (disch := omega) only [nmod, nI_leI, nI_ltI, nI_eq, nI_clamp, vin_nI, nI_1, fa_lit, nI_add, nI_rm3, nI_rm2, pk_rem, pk_mul, pk_sub, pk_div, nI_eM, nI_Me, nI_pM, nI_pMz, nI_pM0, M1_lt, M1_le, nI_ltM, nI_leM, i8_nI, true_and, and_true, false_implies, true_implies, not_false_eq_true, not_true_eq_false, ne_eq, implies_true, Nat.not_lt_zero, Nat.zero_le, ite_min, max0, Nat.reduceLT, Nat.reduceLeDiff, Nat.reduceEqDiff, Nat.reduceAdd, Nat.reduceMul]
          try simp only [m1u]
          refine ⟨fun hx => absurd hx (by omega), fun _ => ?_⟩
          try intro _
          refine ⟨by omega, _, t_sameEvening hG hX.bd hX.cw hD2, ?_⟩
          rintro w n3 z3 f3 ⟨rfl, rfl, rfl, hW, hf⟩
          rw [← eve_still hSt hp2] at hW
          have hF : FRM [1, 6] f2 n3 f3 := ⟨fun x a b => hf x (by simp at b; omega) (by simp at b; omega), fun x a _ _ => hf x (by omega) (by omega), fun x a => hf x (by omega) (by omega)⟩
          have hX3 := hX.frm2 hVk hW hF (by decide) (Nat.le_refl _)
          have L1 := fun u5 => ih 1 f3 n3 z3 u5 (by omega) hX3.1 (hR.trans hX3.2) h8' (Or.inr ⟨rfl, hSt.next hL hE, wi2, go2, pa2, hD2.cong (fun x a b => hf x (by omega) (by omega)), fun t ht => by
            rw [hE.py hL hSt.1.2]; exact hp2 t (by rw [← hE.etn]; exact ht)⟩)
          rw [hSt.2] at L1
          refine wp_sound (by rw [hi]; exact ok_X8_evenings) (hd := [36, 53, 63, 82]) 400 _ _ _ _ _ _ ?_
          simp only [wp, stp, List.mem_cons, List.not_mem_nil, Nat.reduceEqDiff, or_false, or_self, false_or, or_true, true_or, Nat.reduceAdd, ↓reduceIte, List.getElem?_cons_zero, List.getElem?_cons_succ, nthV, List.set_cons_zero, List.set_cons_succ, noL, popA, catS, Value.category, List.length_cons, List.length_nil, Nat.reduceLT, Nat.reduceLeDiff, true_and, and_true, one0, zer1, imp_t, imp_f, ofN_nI, sdead, f20, f21, not_true_eq_false, upC_ap, upC_upC, retC, fitC, isRefT, Option.toList_some, Option.toList_none, List.cons_append, List.nil_append, Nat.lt_add_one, Nat.zero_lt_succ, Nat.le_refl, Nat.add_zero, Nat.zero_add, Nat.one_ne_zero, Nat.zero_ne_one, Nat.lt_irrefl, List.length_set, fa_X8_evenings, hi, hd, hQ, mr_X8_evenings]
          try simp only [m1f]
          try simp (disch := omega) only [nmod, nI_leI, nI_ltI, nI_eq, nI_clamp, vin_nI, nI_1, fa_lit, nI_add, nI_rm3, nI_rm2, pk_rem, pk_mul, pk_sub, pk_div, nI_eM, nI_Me, nI_pM, nI_pMz, nI_pM0, M1_lt, M1_le, nI_ltM, nI_leM, i8_nI, true_and, and_true, false_implies, true_implies, not_false_eq_true, not_true_eq_false, ne_eq, implies_true, Nat.not_lt_zero, Nat.zero_le, ite_min, max0, Nat.reduceLT, Nat.reduceLeDiff, Nat.reduceEqDiff, Nat.reduceAdd, Nat.reduceMul]
          try simp only [m1u]
          exact L1 _
    have L0 := fun u5 => loop m 0 0 f n z u5 (by omega) h (RFX.refl f) e8 (Or.inl rfl)
    refine wp_sound (by rw [hi]; exact ok_X8_evenings) (hd := [36, 53, 63, 82]) 400 _ _ _ _ _ _ ?_
    simp only [wp, stp, List.mem_cons, List.not_mem_nil, Nat.reduceEqDiff, or_false, or_self, false_or, or_true, true_or, Nat.reduceAdd, ↓reduceIte, List.getElem?_cons_zero, List.getElem?_cons_succ, nthV, List.set_cons_zero, List.set_cons_succ, noL, popA, catS, Value.category, List.length_cons, List.length_nil, Nat.reduceLT, Nat.reduceLeDiff, true_and, and_true, one0, zer1, imp_t, imp_f, ofN_nI, sdead, f20, f21, not_true_eq_false, upC_ap, upC_upC, retC, fitC, isRefT, Option.toList_some, Option.toList_none, List.cons_append, List.nil_append, Nat.lt_add_one, Nat.zero_lt_succ, Nat.le_refl, Nat.add_zero, Nat.zero_add, Nat.one_ne_zero, Nat.zero_ne_one, Nat.lt_irrefl, List.length_set, fa_X8_evenings, hi, hd, hQ, mr_X8_evenings, a0, a1]
    exact ⟨fun q => absurd q q1, fun _ => ⟨fun q => absurd q q2, fun _ => ⟨fun _ => L0 _, fun q => absurd q3 q⟩⟩⟩
  · have no := no q
    refine wp_sound (by rw [hi]; exact ok_X8_evenings) (hd := [36, 53, 63, 82]) 400 _ _ _ _ _ _ ?_
    simp only [wp, stp, List.mem_cons, List.not_mem_nil, Nat.reduceEqDiff, or_false, or_self, false_or, or_true, true_or, Nat.reduceAdd, ↓reduceIte, List.getElem?_cons_zero, List.getElem?_cons_succ, nthV, List.set_cons_zero, List.set_cons_succ, noL, popA, catS, Value.category, List.length_cons, List.length_nil, Nat.reduceLT, Nat.reduceLeDiff, true_and, and_true, one0, zer1, imp_t, imp_f, ofN_nI, sdead, f20, f21, not_true_eq_false, upC_ap, upC_upC, retC, fitC, isRefT, Option.toList_some, Option.toList_none, List.cons_append, List.nil_append, Nat.lt_add_one, Nat.zero_lt_succ, Nat.le_refl, Nat.add_zero, Nat.zero_add, Nat.one_ne_zero, Nat.zero_ne_one, Nat.lt_irrefl, List.length_set, fa_X8_evenings, hi, hd, hQ, mr_X8_evenings, a0, a1]
    refine ⟨fun _ => no, fun q1 => ⟨fun _ => no, fun q2 => ⟨fun q3 => absurd ⟨⟨q1, q2⟩, q3⟩ q, fun _ => no⟩⟩⟩
end X8h
