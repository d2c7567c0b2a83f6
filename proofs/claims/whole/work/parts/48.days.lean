-- an evening, and one just like it
set_option maxRecDepth 100000
set_option maxHeartbeats 4000000
/-- what one tent gets: coins, what is spent, moves -/
def pyT (T : Sta) (t : Nat) (got g : Int32) : Sta := upS (upS (upS T 5 t (T 5 t + got)) 0 9 (T 0 9 + got)) 6 t (T 6 t + g)
noncomputable def pay1 (L : Lw) (Sn : Sta) (go : Nat → Int32) : Nat → Sta
  | 0 => Sn
  | k + 1 => pyT (pay1 L Sn go k) k (nI (pyN Sn L 1 k) - go k * Sn 0 6) (go k)
noncomputable def eveS (L : Lw) (S : Sta) : Sta := upS (pay1 L (noonS L 0 S).1 (noonS L 0 S).2.1 (tn S)) 0 8 (pay1 L (noonS L 0 S).1 (noonS L 0 S).2.1 (tn S) 0 8 + 1)
/-- alike but for coins, moves, what is spent, the evening -/
def SmC (S S' : Sta) : Prop := (∀ i, ¬ i = 8 → ¬ i = 9 → S' 0 i = S 0 i) ∧ ∀ j, ¬ j = 0 → ¬ j = 5 → ¬ j = 6 → S' j = S j
theorem SmC.refl (S : Sta) : SmC S S := ⟨fun _ _ _ => rfl, fun _ _ _ _ => rfl⟩
theorem SmC.trans {S S' S'' : Sta} (h : SmC S S') (h' : SmC S' S'') : SmC S S'' := ⟨fun i a b => (h'.1 i a b).trans (h.1 i a b), fun j a b c => (h'.2 j a b c).trans (h.2 j a b c)⟩
theorem SmC.num {S : Sta} {i : Nat} (v : Int32) (h : i = 8 ∨ i = 9) : SmC S (upS S 0 i v) := ⟨fun j a b => upS_0 (by omega), fun j a b c => upS_row a⟩
theorem SmC.arr {S : Sta} {j : Nat} (i : Nat) (v : Int32) (h : j = 5 ∨ j = 6) : SmC S (upS S j i v) := ⟨fun k a b => by rw [upS_row (by omega)], fun k a b c => upS_row (by omega)⟩
theorem SmC.pyT {S T : Sta} (h : SmC S T) (t : Nat) (a b : Int32) : SmC S (pyT T t a b) := ((h.trans (SmC.arr _ _ (Or.inl rfl))).trans (SmC.num _ (Or.inr rfl))).trans (SmC.arr _ _ (Or.inr rfl))
theorem SmC.smp {S T : Sta} (h : SmC S T) (h8 : T 0 8 = S 0 8) : SmP S T := ⟨⟨h.1 _ (by omega) (by omega), h.1 _ (by omega) (by omega), h.1 _ (by omega) (by omega), h.1 _ (by omega) (by omega), h.1 _ (by omega) (by omega), h8⟩, h.2 _ (by omega) (by omega) (by omega), h.2 _ (by omega) (by omega) (by omega), h.2 _ (by omega) (by omega) (by omega), h.2 _ (by omega) (by omega) (by omega)⟩
theorem pyT_8 (T : Sta) (t : Nat) (a b : Int32) : pyT T t a b 0 8 = T 0 8 := by
  unfold pyT; rw [upS_row (by omega), upS_0 (by omega), upS_row (by omega)]
theorem pay1_ok {L : Lw} {S : Sta} {go : Nat → Int32} : ∀ k, SmC S (pay1 L S go k) ∧ pay1 L S go k 0 8 = S 0 8
  | 0 => ⟨SmC.refl S, rfl⟩
  | k + 1 => by
    obtain ⟨h1, h2⟩ := pay1_ok (L := L) (S := S) (go := go) k
    exact ⟨h1.pyT _ _ _, by rw [pay1, pyT_8]; exact h2⟩
theorem VS.cg {S S' : Sta} (h : VS S) (h0 : ∀ i, (i < 2 ∨ 3 ≤ i ∧ i ≤ 7) → S' 0 i = S 0 i) (h1 : S' 1 = S 1) (h2 : S' 2 = S 2) (h3 : S' 3 = S 3) (h8 : S' 8 = S 8) : VS S' := by
  obtain ⟨⟨⟨a1, a2, w, hh, a3, a4, a5⟩, a6⟩, b, c, e, ⟨fi, g1, g2⟩, p, q⟩ := h
  have et : tn S' = tn S := by unfold tn; rw [h0 3 (by omega)]
  have em : mn S' = mn S := by unfold mn; rw [h0 4 (by omega)]
  have ew : wdt S' = wdt S := by unfold wdt; rw [h0 0 (by omega)]
  have eh : hgt S' = hgt S := by unfold hgt; rw [h0 1 (by omega)]
  refine ⟨⟨⟨by rw [et, h0 3 (by omega)]; exact a1, by rw [em, h0 4 (by omega)]; exact a2, w, hh, by rw [h0 0 (by omega)]; exact a3, by rw [h0 1 (by omega)]; exact a4, a5⟩, by rw [em]; exact a6⟩, fun o ho => ?_, fun t ht => ?_, fun t ht => ?_, ⟨fi, g1, by rw [h0 6 (by omega)]; exact g2⟩, by rw [h0 7 (by omega)]; exact p, fun x hx => by rw [h1]; exact q x hx⟩
  · rw [et, em] at ho
    have ey : ybS S' o = ybS S o := by unfold ybS; rw [et, em, h2, h8, h0 5 (by omega)]
    rw [ey]
    rcases b o ho with r | ⟨x, r1, r2⟩
    · exact Or.inl r
    · exact Or.inr ⟨x, by unfold gsN; rw [ew, eh, h1]; exact r1, r2⟩
  · rw [et] at ht; rw [h2]; exact c t ht
  · rw [et] at ht
    have := e t ht
    unfold csS grS inS manAtS clS at this ⊢
    rw [h0 0 (by omega), h0 1 (by omega), h1, h2, h3, h8, et, em]
    exact this
theorem SmC.vs {S T : Sta} (h : SmC S T) (hS : VS S) : VS T := hS.cg (fun i hi => h.1 i (by omega) (by omega)) (h.2 _ (by omega) (by omega) (by omega)) (h.2 _ (by omega) (by omega) (by omega)) (h.2 _ (by omega) (by omega) (by omega)) (h.2 _ (by omega) (by omega) (by omega))
theorem nn1_01 {L : Lw} {th : Int32} {wl : Option (Nat → Option Nat)} {S : Sta} : ∀ k t, (nn1 L th wl S k).2.1 t = 0 ∨ (nn1 L th wl S k).2.1 t = 1
  | 0, t => Or.inl rfl
  | k + 1, t => by
    have ih := nn1_01 (L := L) (th := th) (wl := wl) (S := S) k t
    by_cases h : goP (stp1 th wl (nn1 L th wl S k).1 k) k (wsh1 L th wl (nn1 L th wl S k).1 k)
    · rw [nn1_go h]; dsimp only
      rw [upd_ap]; split
      · exact Or.inr rfl
      · exact ih
    · rw [nn1_st h]; dsimp only
      rw [upd_ap]; split
      · exact Or.inl rfl
      · exact ih
theorem noonS_01 {L : Lw} {th : Int32} {S : Sta} (t : Nat) : (noonS L th S).2.1 t = 0 ∨ (noonS L th S).2.1 t = 1 := by
  unfold noonS; split
  · exact nn1_01 _ _
  · exact nn1_01 _ _
theorem SmQ.emn {S S' : Sta} (h : SmQ S S') : mn S' = mn S := by unfold mn; rw [h.1 4 (by omega)]
theorem eveS_vs {L : Lw} {S : Sta} (hS : VS S) : VS (eveS L S) := by
  have h := noonS_ok (L := L) (th := 0) hS
  exact ((pay1_ok (L := L) (S := (noonS L 0 S).1) (go := (noonS L 0 S).2.1) (tn S)).1.trans (SmC.num _ (Or.inl rfl))).vs h.1
theorem CR.at {S : Sta} {lp : Nat} {f : Mf} (h : CR S lp f) : f 1 = cO 0 [.int (S 0 0), .int (S 0 1), .int (S 0 2), .ref 2, .int (S 0 3), .ref 3, .ref 4, .ref 5, .ref 6, .ref 7, .ref 8, .int (S 0 4), .ref 9, .int (S 0 5), .int (S 0 6), .int (S 0 7), .int (S 0 8), .int (S 0 9), .ref lp] := h.1
theorem i32_sub0 (a b : Int32) : a - 0 * b = a := by grind
theorem i32_sub1 (a b : Int32) : a - 1 * b = a - b := by grind
abbrev FE : List Nat := [1, 3, 6, 7, 13, 14, 15, 20, 21, 25, 26, 27]
section Days3
variable {G : Gam} {d n z lp N Z K t : Nat} {f : Mf} {S : Sta} {L : Lw}
theorem CW.arr {S S' : Sta} (h : CW S L lp N Z K f n z) {j : Nat} {c : Cel} (hj : 4 ≤ j ∧ j ≤ 9) (hS : SmC S S') (hC : CR S' lp (upC f j c)) : CW S' L lp N Z K (upC f j c) n z :=
  h.camp (hS.1 _ (by omega) (by omega)) (hS.1 _ (by omega) (by omega)) (hS.2 _ (by omega) (by omega) (by omega)) hC (fun x hx => upC_ne _ _ (by omega))
theorem t_newEvening (hG : Ok G) (hd1 : 7 ≤ d) (hS : VS S) (hW : CW S L lp N Z K f n z) {wi go pa : Nat → Int32} (hD : DY f wi go pa) : Tr G d 33 [.ref 24] n z f (fun v n' z' f' => v = some (.int (nI (noonS L 0 S).2.2)) ∧ CW (eveS L S) L lp N Z K f' n' z' ∧ (∃ wi' go' pa', DY f' wi' go' pa' ∧ ∀ t, t < tn S → pa' t = nI (pyN (noonS L 0 S).1 L 1 t)) ∧ FRM FE f n f' ∧ n ≤ n') := by
  obtain ⟨⟨b1, b2⟩, -⟩ := id hS.1.1
  have d1 := hD.1
  refine Tr.of2 (ls0 := [.ref 24, dead, dead, dead]) hG mo_X1_newEvening (Nat.le_of_ble_eq_true rfl) rfl ?_
  intro X hi hd hXn hXz hXf hQ
  refine wp_sound (by rw [hi]; exact ok_X1_newEvening) (hd := [5, 8, 32]) 400 _ _ _ _ _ _ ?_
  simp only [wp, stp, List.mem_cons, List.not_mem_nil, Nat.reduceEqDiff, or_false, or_self, false_or, or_true, true_or, Nat.reduceAdd, ↓reduceIte, List.getElem?_cons_zero, List.getElem?_cons_succ, nthV, List.set_cons_zero, List.set_cons_succ, noL, popA, catS, Value.category, List.length_cons, List.length_nil, Nat.reduceLT, Nat.reduceLeDiff, true_and, and_true, one0, zer1, imp_t, imp_f, ofN_nI, sdead, f20, f21, not_true_eq_false, upC_ap, upC_upC, retC, fitC, isRefT, Option.toList_some, Option.toList_none, List.cons_append, List.nil_append, Nat.lt_add_one, Nat.zero_lt_succ, Nat.le_refl, Nat.add_zero, Nat.zero_add, Nat.one_ne_zero, Nat.zero_ne_one, Nat.lt_irrefl, List.length_set, fa_X1_newEvening, hi, hd, hQ, mr_X1_newEvening, d1]
  refine ⟨by omega, _, t_noon hG (by omega) hS hW hD 0, ?_⟩
  rintro v n1 z1 f1 ⟨rfl, hW1, ⟨wi1, go1, hD1, hgo1⟩, hF1, hn1⟩
  obtain ⟨hv, hq⟩ := noonS_ok (L := L) (th := 0) hS
  have h01 := noonS_01 (L := L) (th := 0) (S := S)
  have het : eveS L S = upS (pay1 L (noonS L 0 S).1 (noonS L 0 S).2.1 (tn S)) 0 8 (pay1 L (noonS L 0 S).1 (noonS L 0 S).2.1 (tn S) 0 8 + 1) := rfl
  rw [het] at hQ
  obtain ⟨R, hR⟩ : ∃ R, R = noonS L 0 S := ⟨_, rfl⟩
  rw [← hR] at hv hq h01 hW1 hgo1 hQ ⊢
  have loop : ∀ k' k n' z' g pa' u3, k + k' = tn S → CW (pay1 L R.1 R.2.1 k) L lp N Z K g n' z' → DY g wi1 go1 pa' → (∀ t, t < k → pa' t = nI (pyN R.1 L 1 t)) → FRM FE f n g → n ≤ n' → V G X 8 [.ref 24, .int (nI R.2.2), .int (nI k), u3] [] n' z' g := by
    intro k'
    induction k' with
    | zero =>
      intro k n' z' g pa' u3 hk hW' hD' hpa hF' hn'
      have : k = tn S := by omega
      subst this
      obtain ⟨p1, p2⟩ := pay1_ok (L := L) (S := R.1) (go := R.2.1) (tn S)
      have q3 : pay1 L R.1 R.2.1 (tn S) 0 3 = nI (tn S) := (p1.1 3 (by omega) (by omega)).trans ((hq.1 3 (by omega)).trans b1)
      obtain ⟨T, hT⟩ : ∃ T, T = pay1 L R.1 R.2.1 (tn S) := ⟨_, rfl⟩
      rw [← hT] at hW' p1 p2 q3
      have c1 := hW'.1.at
      have d1 := hD'.1
      have hC8 := hW'.1.num_8 (T 0 8 + 1)
      refine wp_sound (by rw [hi]; exact ok_X1_newEvening) (hd := [5, 8, 32]) 400 _ _ _ _ _ _ ?_
      simp only [wp, stp, List.mem_cons, List.not_mem_nil, Nat.reduceEqDiff, or_false, or_self, false_or, or_true, true_or, Nat.reduceAdd, ↓reduceIte, List.getElem?_cons_zero, List.getElem?_cons_succ, nthV, List.set_cons_zero, List.set_cons_succ, noL, popA, catS, Value.category, List.length_cons, List.length_nil, Nat.reduceLT, Nat.reduceLeDiff, true_and, and_true, one0, zer1, imp_t, imp_f, ofN_nI, sdead, f20, f21, not_true_eq_false, upC_ap, upC_upC, retC, fitC, isRefT, Option.toList_some, Option.toList_none, List.cons_append, List.nil_append, Nat.lt_add_one, Nat.zero_lt_succ, Nat.le_refl, Nat.add_zero, Nat.zero_add, Nat.one_ne_zero, Nat.zero_ne_one, Nat.lt_irrefl, List.length_set, fa_X1_newEvening, hi, hd, hQ, mr_X1_newEvening, c1, d1]
      rw [q3]
      refine ⟨fun _ => ⟨?_, ⟨wi1, go1, pa', hD'.cong (fun x h1 h2 => upC_ne _ _ (by omega)), hpa⟩, hF'.up (by omega) (by simp), hn'⟩, fun h => absurd (Int32.le_refl _) h⟩
      rw [← hT]
      rw [q3] at hC8
      exact hW'.camp (upS_0 (by omega)) (upS_0 (by omega)) (upS_row (by omega)) hC8 (fun x hx => upC_ne _ _ (by omega))
    | succ k' ih =>
      intro k n' z' g pa' u3 hk hW' hD' hpa hF' hn'
      obtain ⟨p1, p2⟩ := pay1_ok (L := L) (S := R.1) (go := R.2.1) k
      have q3 : pay1 L R.1 R.2.1 k 0 3 = nI (tn S) := (p1.1 3 (by omega) (by omega)).trans ((hq.1 3 (by omega)).trans b1)
      have q6 : pay1 L R.1 R.2.1 k 0 6 = R.1 0 6 := p1.1 6 (by omega) (by omega)
      have ih' := fun n' z' g pa' u3 => ih (k + 1) n' z' g pa' u3 (by omega)
      simp only [pay1] at ih'
      obtain ⟨T, hT⟩ : ∃ T, T = pay1 L R.1 R.2.1 k := ⟨_, rfl⟩
      rw [← hT] at hW' p1 p2 q3 q6 ih'
      have hsm := p1.smp p2
      have tT : tn T = tn S := hsm.etn.trans hq.etn
      have hvT : VS T := p1.vs hv
      have c1 := hW'.1.at
      obtain ⟨d1, d2, d3, d4⟩ := id hD'
      obtain ⟨bY, hk1⟩ := hW'.kb
      obtain ⟨kn0, fk0, fa0, ne0, hk0⟩ := id hk1
      unfold KV at hk0
      have hct : (nI k).toNatClampNeg = k := nI_clamp (by omega)
      have hit : vp_in (nI k) 10 := (vin_nI (by omega)).mpr (by omega)
      rw [q3] at c1
      refine wp_sound (by rw [hi]; exact ok_X1_newEvening) (hd := [5, 8, 32]) 400 _ _ _ _ _ _ ?_
      simp only [wp, stp, List.mem_cons, List.not_mem_nil, Nat.reduceEqDiff, or_false, or_self, false_or, or_true, true_or, Nat.reduceAdd, ↓reduceIte, List.getElem?_cons_zero, List.getElem?_cons_succ, nthV, List.set_cons_zero, List.set_cons_succ, noL, popA, catS, Value.category, List.length_cons, List.length_nil, Nat.reduceLT, Nat.reduceLeDiff, true_and, and_true, one0, zer1, imp_t, imp_f, ofN_nI, sdead, f20, f21, not_true_eq_false, upC_ap, upC_upC, retC, fitC, isRefT, Option.toList_some, Option.toList_none, List.cons_append, List.nil_append, Nat.lt_add_one, Nat.zero_lt_succ, Nat.le_refl, Nat.add_zero, Nat.zero_add, Nat.one_ne_zero, Nat.zero_ne_one, Nat.lt_irrefl, List.length_set, fa_X1_newEvening, hi, hd, hQ, mr_X1_newEvening, c1, d1, hk0]
      try simp only [m1f]
      try simp (disch := omega) only [nmod, nI_leI, nI_ltI, nI_eq, nI_clamp, vin_nI, nI_1, fa_lit, nI_add, nI_rm3, nI_rm2, pk_rem, pk_mul, pk_sub, pk_div, nI_eM, nI_Me, nI_pM, nI_pMz, nI_pM0, M1_lt, M1_le, nI_ltM, nI_leM, i8_nI, true_and, and_true, false_implies, true_implies, not_false_eq_true, not_true_eq_false, ne_eq, implies_true, Nat.not_lt_zero, Nat.zero_le, ite_min, max0, Nat.reduceLT, Nat.reduceLeDiff, Nat.reduceEqDiff, Nat.reduceAdd, Nat.reduceMul]
      try simp only [m1u]
      refine ⟨fun h => absurd h (by omega), fun _ => ⟨by omega, _, t_payOf_20 hG (by omega) hvT.1.1 hW' hvT.2.1 hk1 (by omega) (hvT.2.2.1 k (by omega)), ?_⟩⟩
      rintro v n2 z2 f2 ⟨rfl, hW2, hk2, hF2, hn2⟩
      rw [hsm.py]
      have hD2 := hD'.cong (fun x h1 h2 => hF2.1 x (by omega) (by simp; omega))
      obtain ⟨e1, e2, e3, e4⟩ := id hD2
      obtain ⟨c1, kd, ya, fam, mo, co, mv, tp, my, -, -, -, -, -, -, -, -, c6, c6', c7, c7', -⟩ := id hW2.1
      have ec : co k = T 5 k := c6' k (by omega)
      have em : mv k = T 6 k := c7' k (by omega)
      have eg : go1 k = R.2.1 k := hgo1 k (by omega)
      obtain ⟨P, hP⟩ : ∃ P, P = nI (pyN R.1 L 1 k) := ⟨_, rfl⟩
      rw [← hP] at ih' ⊢
      obtain ⟨g1, hg1⟩ : ∃ g1, g1 = R.2.1 k := ⟨_, rfl⟩
      rw [← hg1] at eg
      have hpd : ∀ pa2 : Nat → Int32, pa2 = upd pa' k P → ∀ t, t < k + 1 → pa2 t = nI (pyN R.1 L 1 t) := fun pa2 h t ht => by
        rw [h, upd_ap]
        by_cases e : t = k
        · rw [if_pos e, hP, e]
        · rw [if_neg e]; exact hpa t (by omega)
      have eP : upd pa' k P k = P := by rw [upd_ap, if_pos rfl]
      -- the memory after the coins, the sum, the moves
      have hW3 : CW T L lp N Z K (upC f2 27 (cI 10 (upd pa' k P))) n2 z2 := hW2.lo (by omega) (by omega)
      have h6' : ∀ got, CW (upS T 5 k (T 5 k + got)) L lp N Z K (upC (upC f2 27 (cI 10 (upd pa' k P))) 6 (cI 10 (upd co k (T 5 k + got)))) n2 z2 := fun got => hW3.arr (by omega) (SmC.arr _ _ (Or.inl rfl)) (hW3.1.arr_5 ((upC_ne _ _ (by omega)).trans c6) k _)
      have h9' : ∀ got, CW (upS (upS T 5 k (T 5 k + got)) 0 9 (T 0 9 + got)) L lp N Z K (upC (upC (upC f2 27 (cI 10 (upd pa' k P))) 6 (cI 10 (upd co k (T 5 k + got)))) 1 (cO 0 [.int (T 0 0), .int (T 0 1), .int (T 0 2), .ref 2, .int (T 0 3), .ref 3, .ref 4, .ref 5, .ref 6, .ref 7, .ref 8, .int (T 0 4), .ref 9, .int (T 0 5), .int (T 0 6), .int (T 0 7), .int (T 0 8), .int (T 0 9 + got), .ref lp])) n2 z2 := fun got => by
        have := (h6' got).1.num_9 (T 0 9 + got)
        rw [upS_row (show ¬ 0 = 5 by omega)] at this
        exact (h6' got).camp (upS_0 (by omega)) (upS_0 (by omega)) (upS_row (by omega)) this (fun x hx => upC_ne _ _ (by omega))
      have hFr : ∀ x, x ∉ FE → x < 49 ∨ 1000000 ≤ x → True := fun _ _ _ => trivial
      have hD3 : ∀ c6 c1 : Cel, DY (upC (upC (upC f2 27 (cI 10 (upd pa' k P))) 6 c6) 1 c1) wi1 go1 (upd pa' k P) := fun c6 c1 => by
        refine ⟨?_, ?_, ?_, ?_⟩
        · rw [upC_ne _ _ (by omega), upC_ne _ _ (by omega), upC_ne _ _ (by omega)]; exact e1
        · rw [upC_ne _ _ (by omega), upC_ne _ _ (by omega), upC_ne _ _ (by omega)]; exact e2
        · rw [upC_ne _ _ (by omega), upC_ne _ _ (by omega), upC_ne _ _ (by omega)]; exact e3
        · rw [upC_ne _ _ (by omega), upC_ne _ _ (by omega), upC_self]
      have hF3 : ∀ c6 c1 : Cel, FRM FE f n (upC (upC (upC f2 27 (cI 10 (upd pa' k P))) 6 c6) 1 c1) := fun c6 c1 => (((hF'.trans hn' (hF2.k.mono (fun x hx => by simp at hx ⊢; omega))).up (by omega) (by simp)).up (by omega) (by simp)).up (by omega) (by simp)
      have c27 : ∀ c, upC f2 27 c 1 = f2 1 := fun c => upC_ne _ _ (by omega)
      refine wp_sound (by rw [hi]; exact ok_X1_newEvening) (hd := [5, 8, 32, 114]) 400 _ _ _ _ _ _ ?_
      simp only [wp, stp, List.mem_cons, List.not_mem_nil, Nat.reduceEqDiff, or_false, or_self, false_or, or_true, true_or, Nat.reduceAdd, ↓reduceIte, List.getElem?_cons_zero, List.getElem?_cons_succ, nthV, List.set_cons_zero, List.set_cons_succ, noL, popA, catS, Value.category, List.length_cons, List.length_nil, Nat.reduceLT, Nat.reduceLeDiff, true_and, and_true, one0, zer1, imp_t, imp_f, ofN_nI, sdead, f20, f21, not_true_eq_false, upC_ap, upC_upC, retC, fitC, isRefT, Option.toList_some, Option.toList_none, List.cons_append, List.nil_append, Nat.lt_add_one, Nat.zero_lt_succ, Nat.le_refl, Nat.add_zero, Nat.zero_add, Nat.one_ne_zero, Nat.zero_ne_one, Nat.lt_irrefl, List.length_set, fa_X1_newEvening, hi, hd, hQ, mr_X1_newEvening, c1, e1, e3, e4, hct, eg, eP, c6, ec, c7, em]
      have h0 : g1 = 0 → P = P - R.2.1 k * R.1 0 6 := fun h => by rw [← hg1, h, i32_sub0]
      have h1 : g1 = 1 → P - T 0 6 = P - R.2.1 k * R.1 0 6 := fun h => by rw [← hg1, h, i32_sub1, q6]
      have h114 : ∀ got g u3, got = P - R.2.1 k * R.1 0 6 → CW (pyT T k got (R.2.1 k)) L lp N Z K g n2 z2 → DY g wi1 go1 (upd pa' k P) → FRM FE f n g → V G X 114 [.ref 24, .int (nI R.2.2), .int (nI k), u3] [] n2 z2 g := by
        intro got g u3 eg hC hD hF
        refine wp_sound (by rw [hi]; exact ok_X1_newEvening) (hd := [5, 8, 32]) 400 _ _ _ _ _ _ ?_
        simp only [wp, stp, List.mem_cons, List.not_mem_nil, Nat.reduceEqDiff, or_false, or_self, false_or, or_true, true_or, Nat.reduceAdd, ↓reduceIte, List.getElem?_cons_zero, List.getElem?_cons_succ, nthV, List.set_cons_zero, List.set_cons_succ, noL, popA, catS, Value.category, List.length_cons, List.length_nil, Nat.reduceLT, Nat.reduceLeDiff, true_and, and_true, one0, zer1, imp_t, imp_f, ofN_nI, sdead, f20, f21, not_true_eq_false, upC_ap, upC_upC, retC, fitC, isRefT, Option.toList_some, Option.toList_none, List.cons_append, List.nil_append, Nat.lt_add_one, Nat.zero_lt_succ, Nat.le_refl, Nat.add_zero, Nat.zero_add, Nat.one_ne_zero, Nat.zero_ne_one, Nat.lt_irrefl, List.length_set, fa_X1_newEvening, hi, hd, hQ, mr_X1_newEvening]
        try simp only [m1f]
        try simp (disch := omega) only [nmod, nI_leI, nI_ltI, nI_eq, nI_clamp, vin_nI, nI_1, fa_lit, nI_add, nI_rm3, nI_rm2, pk_rem, pk_mul, pk_sub, pk_div, nI_eM, nI_Me, nI_pM, nI_pMz, nI_pM0, M1_lt, M1_le, nI_ltM, nI_leM, i8_nI, true_and, and_true, false_implies, true_implies, not_false_eq_true, not_true_eq_false, ne_eq, implies_true, Nat.not_lt_zero, Nat.zero_le, ite_min, max0, Nat.reduceLT, Nat.reduceLeDiff, Nat.reduceEqDiff, Nat.reduceAdd, Nat.reduceMul]
        try simp only [m1u]
        exact ih' n2 z2 g (upd pa' k P) u3 (eg ▸ hC) hD (hpd _ rfl) hF (by omega)
      refine ⟨hit, hit, fun hz => ⟨hit, hit, hit, hit, fun _ => ?_, fun h => absurd hz h⟩, fun hz => ⟨hit, hit, hit, hit, fun h => absurd h hz, fun _ => ⟨hit, hit, ?_⟩⟩⟩
      · refine h114 P _ _ (h0 hz) ?_ (hD3 _ _) (hF3 _ _)
        have e6 : pyT T k P (R.2.1 k) = upS (upS T 5 k (T 5 k + P)) 0 9 (T 0 9 + P) := by
          rw [← hg1, hz]
          have : upS (upS T 5 k (T 5 k + P)) 0 9 (T 0 9 + P) 6 k = T 6 k := by rw [upS_row (by omega), upS_row (by omega)]
          unfold pyT
          rw [Int32.add_zero, ← this, upS_id]
        rw [e6]
        exact h9' P
      · have hz1 : g1 = 1 := by rcases h01 k with q | q; exact absurd (hg1.trans q) hz; exact hg1.trans q
        refine h114 (P - T 0 6) _ _ (h1 hz1) ?_ ((hD3 _ _).cong (fun x h1 h2 => upC_ne _ _ (by omega))) ((hF3 _ _).up (by omega) (by simp))
        have e7 : ∀ (a b c : Cel), upC (upC (upC f2 27 a) 6 b) 1 c 7 = cI 10 mv := fun a b c => by rw [upC_ne _ _ (by omega), upC_ne _ _ (by omega), upC_ne _ _ (by omega)]; exact c7
        have := (h9' (P - T 0 6)).arr (by omega) (SmC.arr _ _ (Or.inr rfl)) ((h9' (P - T 0 6)).1.arr_6 (e7 _ _ _) k (T 6 k + 1))
        rw [← hg1, hz1]
        exact this
  refine wp_sound (by rw [hi]; exact ok_X1_newEvening) (hd := [5, 8, 32]) 400 _ _ _ _ _ _ ?_
  simp only [wp, stp, List.mem_cons, List.not_mem_nil, Nat.reduceEqDiff, or_false, or_self, false_or, or_true, true_or, Nat.reduceAdd, ↓reduceIte, List.getElem?_cons_zero, List.getElem?_cons_succ, nthV, List.set_cons_zero, List.set_cons_succ, noL, popA, catS, Value.category, List.length_cons, List.length_nil, Nat.reduceLT, Nat.reduceLeDiff, true_and, and_true, one0, zer1, imp_t, imp_f, ofN_nI, sdead, f20, f21, not_true_eq_false, upC_ap, upC_upC, retC, fitC, isRefT, Option.toList_some, Option.toList_none, List.cons_append, List.nil_append, Nat.lt_add_one, Nat.zero_lt_succ, Nat.le_refl, Nat.add_zero, Nat.zero_add, Nat.one_ne_zero, Nat.zero_ne_one, Nat.lt_irrefl, List.length_set, fa_X1_newEvening, hi, hd, hQ, mr_X1_newEvening, d1]
  exact loop (tn S) 0 n1 z1 f1 pa dead (by omega) hW1 hD1 (fun t ht => absurd ht (Nat.not_lt_zero t)) (hF1.mono (fun x hx => by simp at hx ⊢; omega)) hn1
theorem t_allAlike (hG : Ok G) (hB : Bd S) (hW : CW S L lp N Z K f n z) {wi go pa : Nat → Int32} (hD : DY f wi go pa) : Tr G d 34 [.ref 24] n z f (Same (.int (bI ((∀ t, t < tn S → ¬ S 4 t = 3) ∧ L.2.1 = 0))) n z f) := by
  obtain ⟨⟨b1, b2⟩, -⟩ := id hB
  obtain ⟨c1, kd, ya, fam, mo, co, mv, tp, my, -, -, -, -, -, -, c5, c5', -⟩ := id hW.1
  have d1 := hD.1
  obtain ⟨sp, m, st, kd, vl, -, -, l5, -⟩ := hW.2.2.2.1
  refine Tr.of2 (ls0 := [.ref 24, dead]) hG mo_X1_allAlike (Nat.le_of_ble_eq_true rfl) rfl ?_
  intro X hi hd hXn hXz hXf hQ
  have loop : ∀ k' k, k + k' = tn S → (∀ t, t < k → ¬ S 4 t = 3) → V G X 2 [.ref 24, .int (nI k)] [] n z f := by
    intro k'
    induction k' with
    | zero =>
      intro k hk hall
      have : k = tn S := by omega
      subst this
      refine wp_sound (by rw [hi]; exact ok_X1_allAlike) (hd := [2]) 400 _ _ _ _ _ _ ?_
      simp only [wp, stp, List.mem_cons, List.not_mem_nil, Nat.reduceEqDiff, or_false, or_self, false_or, or_true, true_or, Nat.reduceAdd, ↓reduceIte, List.getElem?_cons_zero, List.getElem?_cons_succ, nthV, List.set_cons_zero, List.set_cons_succ, noL, popA, catS, Value.category, List.length_cons, List.length_nil, Nat.reduceLT, Nat.reduceLeDiff, true_and, and_true, one0, zer1, imp_t, imp_f, ofN_nI, sdead, f20, f21, not_true_eq_false, upC_ap, upC_upC, retC, fitC, isRefT, Option.toList_some, Option.toList_none, List.cons_append, List.nil_append, Nat.lt_add_one, Nat.zero_lt_succ, Nat.le_refl, Nat.add_zero, Nat.zero_add, Nat.one_ne_zero, Nat.zero_ne_one, Nat.lt_irrefl, List.length_set, fa_X1_allAlike, hi, hd, hQ, mr_X1_allAlike, c1, d1, l5, b1]
      exact ⟨fun _ => ⟨fun h => Same.i (bI_f (fun q => h q.2)).symm, fun h => Same.i (bI_t ⟨hall, h⟩).symm⟩, fun h => absurd (Int32.le_refl _) h⟩
    | succ k' ih =>
      intro k hk hall
      refine wp_sound (by rw [hi]; exact ok_X1_allAlike) (hd := [2]) 400 _ _ _ _ _ _ ?_
      simp only [wp, stp, List.mem_cons, List.not_mem_nil, Nat.reduceEqDiff, or_false, or_self, false_or, or_true, true_or, Nat.reduceAdd, ↓reduceIte, List.getElem?_cons_zero, List.getElem?_cons_succ, nthV, List.set_cons_zero, List.set_cons_succ, noL, popA, catS, Value.category, List.length_cons, List.length_nil, Nat.reduceLT, Nat.reduceLeDiff, true_and, and_true, one0, zer1, imp_t, imp_f, ofN_nI, sdead, f20, f21, not_true_eq_false, upC_ap, upC_upC, retC, fitC, isRefT, Option.toList_some, Option.toList_none, List.cons_append, List.nil_append, Nat.lt_add_one, Nat.zero_lt_succ, Nat.le_refl, Nat.add_zero, Nat.zero_add, Nat.one_ne_zero, Nat.zero_ne_one, Nat.lt_irrefl, List.length_set, fa_X1_allAlike, hi, hd, hQ, mr_X1_allAlike, c1, d1, l5, b1, c5]
      try simp only [m1f]
      try simp (disch := omega) only [nmod, nI_leI, nI_ltI, nI_eq, nI_clamp, vin_nI, nI_1, fa_lit, nI_add, nI_rm3, nI_rm2, pk_rem, pk_mul, pk_sub, pk_div, nI_eM, nI_Me, nI_pM, nI_pMz, nI_pM0, M1_lt, M1_le, nI_ltM, nI_leM, i8_nI, true_and, and_true, false_implies, true_implies, not_false_eq_true, not_true_eq_false, ne_eq, implies_true, Nat.not_lt_zero, Nat.zero_le, ite_min, max0, Nat.reduceLT, Nat.reduceLeDiff, Nat.reduceEqDiff, Nat.reduceAdd, Nat.reduceMul]
      try simp only [m1u]
      rw [c5' k (by omega)]
      refine ⟨fun h => absurd h (by omega), fun _ => ⟨by omega, fun h => ih (k + 1) (by omega) (fun t ht => ?_), fun h => Same.i (bI_f (fun q => q.1 k (by omega) h)).symm⟩⟩
      by_cases e : t = k
      · subst e; exact h
      · exact hall t (by omega)
  refine wp_sound (by rw [hi]; exact ok_X1_allAlike) (hd := [2]) 400 _ _ _ _ _ _ ?_
  simp only [wp, stp, List.mem_cons, List.not_mem_nil, Nat.reduceEqDiff, or_false, or_self, false_or, or_true, true_or, Nat.reduceAdd, ↓reduceIte, List.getElem?_cons_zero, List.getElem?_cons_succ, nthV, List.set_cons_zero, List.set_cons_succ, noL, popA, catS, Value.category, List.length_cons, List.length_nil, Nat.reduceLT, Nat.reduceLeDiff, true_and, and_true, one0, zer1, imp_t, imp_f, ofN_nI, sdead, f20, f21, not_true_eq_false, upC_ap, upC_upC, retC, fitC, isRefT, Option.toList_some, Option.toList_none, List.cons_append, List.nil_append, Nat.lt_add_one, Nat.zero_lt_succ, Nat.le_refl, Nat.add_zero, Nat.zero_add, Nat.one_ne_zero, Nat.zero_ne_one, Nat.lt_irrefl, List.length_set, fa_X1_allAlike, hi, hd, hQ, mr_X1_allAlike, c1, d1]
  exact loop (tn S) 0 (by omega) (fun t ht => absurd ht (Nat.not_lt_zero t))
end Days3
