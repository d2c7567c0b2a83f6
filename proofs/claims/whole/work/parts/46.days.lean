-- Days: draws, wishes, the noon
set_option maxRecDepth 100000
set_option maxHeartbeats 4000000
def DY (f : Mf) (wi go pa : Nat → Int32) : Prop := f 24 = cO 1 [.ref 1, .ref 20, .ref 25, .ref 26, .ref 27] ∧ f 25 = cI 10 wi ∧ f 26 = cZ 10 go ∧ f 27 = cI 10 pa
theorem DY.cong {f f' : Mf} {wi go pa : Nat → Int32} (h : DY f wi go pa) (hf : ∀ x, 24 ≤ x → x ≤ 27 → f' x = f x) : DY f' wi go pa := by
  unfold DY at *
  rw [hf 24 (by omega) (by omega), hf 25 (by omega) (by omega), hf 26 (by omega) (by omega), hf 27 (by omega) (by omega)]
  exact h
theorem CW.kb {S : Sta} {L : Lw} {lp N Z K n z : Nat} {f : Mf} (h : CW S L lp N Z K f n z) : ∃ bY, KB 20 12 f bY := by
  obtain ⟨⟨bY, kn, fk, fa, ne, hk⟩, -⟩ := h.2.2.2.2.1
  exact ⟨bY, kn, fk, fa, ne, hk⟩
theorem sub_le {a b c : Nat} (ha : a < 1000000000) (hb : b < 1000000000) (hc : c < 1000000000) : nI a - nI b ≤ nI c ↔ a ≤ c + b := by
  by_cases h : b ≤ a
  · rw [pk_sub h, nI_leI (by omega) (by omega)]; omega
  · have e : nI a - nI b < nI 0 := pk_sneg (by omega) (by omega)
    rw [Int32.lt_iff_toInt_lt, nI_toInt (by omega)] at e
    rw [Int32.le_iff_toInt_le, nI_toInt (by omega)]
    omega
theorem m1_sub (b : Nat) : M1 - nI b = nI 0 - nI (b + 1) := by
  rw [← nI_add]
  show (-1 : Int32) - nI b = 0 - (nI b + 1)
  grind
section Days1
variable {G : Gam} {d n z lp N Z K t : Nat} {f : Mf} {S : Sta} {L : Lw}
theorem t_draw (hG : Ok G) {a b : Value} {tl : List Value} {dr mv s1 r : Int32} (c1 : f 1 = cO 0 (a :: b :: .int dr :: tl)) (hl : tl.length = 16) (hm : ∃ m : Nat, mv = nI m ∧ 0 < m ∧ m < 1000) (h1 : s1 = drI dr) (h2 : r = drV s1 mv) : Tr G d 28 [.ref 1, .int mv] n z f (fun v n' z' f' => v = some (.int r) ∧ n' = n ∧ z' = z ∧ f' = upC f 1 (cO 0 (a :: b :: .int s1 :: tl))) := by
  obtain ⟨m, rfl, hm1, hm2⟩ := hm
  refine Tr.of2 (ls0 := [.ref 1, .int (nI m)]) hG mo_X0_draw (Nat.le_of_ble_eq_true rfl) rfl ?_
  intro X hi hd hXn hXz hXf hQ
  refine wp_sound (by rw [hi]; exact ok_X0_draw) (hd := []) 400 _ _ _ _ _ _ ?_
  simp only [wp, stp, List.mem_cons, List.not_mem_nil, Nat.reduceEqDiff, or_false, or_self, false_or, or_true, true_or, Nat.reduceAdd, ↓reduceIte, List.getElem?_cons_zero, List.getElem?_cons_succ, nthV, List.set_cons_zero, List.set_cons_succ, noL, popA, catS, Value.category, List.length_cons, List.length_nil, Nat.reduceLT, Nat.reduceLeDiff, true_and, and_true, one0, zer1, imp_t, imp_f, ofN_nI, sdead, f20, f21, not_true_eq_false, upC_ap, upC_upC, retC, fitC, isRefT, Option.toList_some, Option.toList_none, List.cons_append, List.nil_append, Nat.lt_add_one, Nat.zero_lt_succ, Nat.le_refl, Nat.add_zero, Nat.zero_add, Nat.one_ne_zero, Nat.zero_ne_one, Nat.lt_irrefl, List.length_set, fa_X0_draw, hi, hd, hQ, mr_X0_draw, c1, hl]
  refine ⟨fun h => ?_, fun h => ⟨?_, ?_, ?_⟩⟩
  · exact absurd ((nI_leI (b := 0) (by omega) (by omega)).mp h) (by omega)
  · exact fun q => absurd ((nI_eq (b := 0) (by omega) (by omega)).mp q) (by omega)
  · rw [h2, h1]; rfl
  · rw [h1]; rfl
theorem t_whimOf (hG : Ok G) (hd1 : 3 ≤ d) (hB : Bd S) (hW : CW S L lp N Z K f n z) {wi go pa : Nat → Int32} (hD : DY f wi go pa) (ht : t < tn S) : Tr G d 32 [.ref 24, .int (nI t)] n z f (fun v n' z' f' => v = some (.int (eO (whS S t))) ∧ n' = n ∧ z' = z ∧ CW (upS S 0 2 (drI (drI (S 0 2)))) L lp N Z K f' n z ∧ ∀ x, ¬ x = 1 → f' x = f x) := by
  obtain ⟨c1, -, ya, fam, -, -, -, -, -, -, -, c3, c3', c4, c4', -⟩ := id hW.1
  obtain ⟨⟨b1, b2⟩, ⟨-, b4⟩, wd, ht0, e0, e1, hw1, hw2, hh1, hh2⟩ := id hB
  have hct : (nI t).toNatClampNeg = t := nI_clamp (by omega)
  have hit : vp_in (nI t) 10 := (vin_nI (by omega)).mpr (by omega)
  obtain ⟨d1, d2, d3, d4⟩ := hD
  obtain ⟨s1, hs1⟩ : ∃ s1, s1 = drI (S 0 2) := ⟨_, rfl⟩
  obtain ⟨s2, hs2⟩ : ∃ s2, s2 = drI s1 := ⟨_, rfl⟩
  obtain ⟨x1, hx1⟩ : ∃ x1, x1 = drV s1 (S 0 0) := ⟨_, rfl⟩
  obtain ⟨y1, hy1⟩ : ∃ y1, y1 = drV s2 (S 0 1) := ⟨_, rfl⟩
  obtain ⟨Y, hY⟩ : ∃ Y, Y = 10 * y1 + x1 := ⟨_, rfl⟩
  have hY0 : whY S = Y := by rw [hY, hy1, hx1, hs2, hs1]; rfl
  rw [← hs1, ← hs2]
  have hC2 := hW.1.num_2 s2
  have hSm : SmP S (upS S 0 2 s2) := SmP.num S 2 _ (Or.inl rfl)
  have fin : CW (upS S 0 2 s2) L lp N Z K (upC f 1 (cO 0 [.int (S 0 0), .int (S 0 1), .int s2, .ref 2, .int (S 0 3), .ref 3, .ref 4, .ref 5, .ref 6, .ref 7, .ref 8, .int (S 0 4), .ref 9, .int (S 0 5), .int (S 0 6), .int (S 0 7), .int (S 0 8), .int (S 0 9), .ref lp])) n z := hW.campS hSm hC2 (fun x hx => upC_ne _ _ (by omega))
  have hfr : ∀ (c : Cel) x, ¬ x = 1 → upC f 1 c x = f x := fun c x h => upC_ne _ _ h
  have hno : (¬ csS S Y (nI t) (S 3 t) ∨ Y = S 2 t) → some (Value.int (-1)) = some (Value.int (eO (whS S t))) := fun h => by
    rw [whS, hY0, if_neg (fun q => by rcases h with h | h; exact h q.1; exact q.2 h)]; rfl
  refine Tr.of2 (ls0 := [.ref 24, .int (nI t), dead, dead, dead, dead]) hG mo_X1_whimOf (Nat.le_of_ble_eq_true rfl) rfl ?_
  intro X hi hd hXn hXz hXf hQ
  refine wp_sound (by rw [hi]; exact ok_X1_whimOf) (hd := [14, 29, 57]) 400 _ _ _ _ _ _ ?_
  simp only [wp, stp, List.mem_cons, List.not_mem_nil, Nat.reduceEqDiff, or_false, or_self, false_or, or_true, true_or, Nat.reduceAdd, ↓reduceIte, List.getElem?_cons_zero, List.getElem?_cons_succ, nthV, List.set_cons_zero, List.set_cons_succ, noL, popA, catS, Value.category, List.length_cons, List.length_nil, Nat.reduceLT, Nat.reduceLeDiff, true_and, and_true, one0, zer1, imp_t, imp_f, ofN_nI, sdead, f20, f21, not_true_eq_false, upC_ap, upC_upC, retC, fitC, isRefT, Option.toList_some, Option.toList_none, List.cons_append, List.nil_append, Nat.lt_add_one, Nat.zero_lt_succ, Nat.le_refl, Nat.add_zero, Nat.zero_add, Nat.one_ne_zero, Nat.zero_ne_one, Nat.lt_irrefl, List.length_set, fa_X1_whimOf, hi, hd, hQ, mr_X1_whimOf, d1, c1]
  refine ⟨by omega, _, t_draw hG c1 rfl ⟨wd, e0, by omega, by omega⟩ hs1 hx1, ?_⟩
  rintro v n1 z1 f1 ⟨rfl, rfl, rfl, rfl⟩
  refine wp_sound (by rw [hi]; exact ok_X1_whimOf) (hd := [14, 29, 57]) 400 _ _ _ _ _ _ ?_
  simp only [wp, stp, List.mem_cons, List.not_mem_nil, Nat.reduceEqDiff, or_false, or_self, false_or, or_true, true_or, Nat.reduceAdd, ↓reduceIte, List.getElem?_cons_zero, List.getElem?_cons_succ, nthV, List.set_cons_zero, List.set_cons_succ, noL, popA, catS, Value.category, List.length_cons, List.length_nil, Nat.reduceLT, Nat.reduceLeDiff, true_and, and_true, one0, zer1, imp_t, imp_f, ofN_nI, sdead, f20, f21, not_true_eq_false, upC_ap, upC_upC, retC, fitC, isRefT, Option.toList_some, Option.toList_none, List.cons_append, List.nil_append, Nat.lt_add_one, Nat.zero_lt_succ, Nat.le_refl, Nat.add_zero, Nat.zero_add, Nat.one_ne_zero, Nat.zero_ne_one, Nat.lt_irrefl, List.length_set, fa_X1_whimOf, hi, hd, hQ, mr_X1_whimOf, d1]
  refine ⟨by omega, _, t_draw hG (upC_self _ _ _) rfl ⟨ht0, e1, by omega, by omega⟩ hs2 hy1, ?_⟩
  rintro v n2 z2 f2 ⟨rfl, rfl, rfl, rfl⟩
  rw [upC_upC]
  refine wp_sound (by rw [hi]; exact ok_X1_whimOf) (hd := [14, 29, 57]) 400 _ _ _ _ _ _ ?_
  simp only [wp, stp, List.mem_cons, List.not_mem_nil, Nat.reduceEqDiff, or_false, or_self, false_or, or_true, true_or, Nat.reduceAdd, ↓reduceIte, List.getElem?_cons_zero, List.getElem?_cons_succ, nthV, List.set_cons_zero, List.set_cons_succ, noL, popA, catS, Value.category, List.length_cons, List.length_nil, Nat.reduceLT, Nat.reduceLeDiff, true_and, and_true, one0, zer1, imp_t, imp_f, ofN_nI, sdead, f20, f21, not_true_eq_false, upC_ap, upC_upC, retC, fitC, isRefT, Option.toList_some, Option.toList_none, List.cons_append, List.nil_append, Nat.lt_add_one, Nat.zero_lt_succ, Nat.le_refl, Nat.add_zero, Nat.zero_add, Nat.one_ne_zero, Nat.zero_ne_one, Nat.lt_irrefl, List.length_set, fa_X1_whimOf, hi, hd, hQ, mr_X1_whimOf, d1, c4, hct, ← hY]
  refine ⟨hit, by omega, _, t_couldStand hG (by omega) hC2 (hSm.bd hB) _ _ _, ?_⟩
  rintro v n3 z3 f3 ⟨rfl, rfl, rfl, rfl⟩
  rw [c4' t ht, bI_c (hSm.cs Y (nI t) (S 3 t))]
  refine wp_sound (by rw [hi]; exact ok_X1_whimOf) (hd := [14, 29, 57]) 400 _ _ _ _ _ _ ?_
  simp only [wp, stp, List.mem_cons, List.not_mem_nil, Nat.reduceEqDiff, or_false, or_self, false_or, or_true, true_or, Nat.reduceAdd, ↓reduceIte, List.getElem?_cons_zero, List.getElem?_cons_succ, nthV, List.set_cons_zero, List.set_cons_succ, noL, popA, catS, Value.category, List.length_cons, List.length_nil, Nat.reduceLT, Nat.reduceLeDiff, true_and, and_true, one0, zer1, imp_t, imp_f, ofN_nI, sdead, f20, f21, not_true_eq_false, upC_ap, upC_upC, retC, fitC, isRefT, Option.toList_some, Option.toList_none, List.cons_append, List.nil_append, Nat.lt_add_one, Nat.zero_lt_succ, Nat.le_refl, Nat.add_zero, Nat.zero_add, Nat.one_ne_zero, Nat.zero_ne_one, Nat.lt_irrefl, List.length_set, fa_X1_whimOf, hi, hd, hQ, mr_X1_whimOf, d1, c3, hct, bI_0]
  rw [c3' t ht]
  refine ⟨fun h => ⟨hno (Or.inl h), fin, hfr _⟩, fun h => ⟨hit, fun q => ⟨hno (Or.inr q), fin, hfr _⟩, fun q => ⟨?_, fin, hfr _⟩⟩⟩
  obtain ⟨k, hk, ek⟩ := csS_100 (Decidable.not_not.mp h)
  rw [whS, hY0, if_pos ⟨Decidable.not_not.mp h, q⟩, ek, nI_clamp (by omega)]
  rfl
theorem t_wishOf (hG : Ok G) (hd1 : 5 ≤ d) (hS : VS S) (hW : CW S L lp N Z K f n z) {wi go pa : Nat → Int32} (hD : DY f wi go pa) (ht : t < tn S) (th : Int32) : Tr G d 31 [.ref 24, .int (nI t), .int th] n z f (fun v n' z' f' => v = some (.int (eO (wishS S L th t))) ∧ CW (upS S 0 2 (drS S th t)) L lp N Z K f' n' z' ∧ FRM [1, 13, 14, 15, 20, 21] f n f' ∧ n ≤ n') := by
  obtain ⟨h, hh, eh⟩ := hS.home ht
  have hB := hS.1.1
  obtain ⟨fi, hfi, efi⟩ := hS.2.2.2.2.1
  have hV := hS.2.1
  obtain ⟨c1, kd, ya, fam, mo, -, -, -, -, -, -, c3, c3', c4, c4', c5, c5', -⟩ := id hW.1
  obtain ⟨⟨b1, b2⟩, ⟨-, b4⟩, -⟩ := id hB
  have hct : (nI t).toNatClampNeg = t := nI_clamp (by omega)
  have hch : (nI h).toNatClampNeg = h := nI_clamp (by have := hh.1.1; omega)
  have hit : vp_in (nI t) 10 := (vin_nI (by omega)).mpr (by omega)
  obtain ⟨bY, hk⟩ := hW.kb
  obtain ⟨kn0, fk0, fa0, ne0, hk0⟩ := id hk
  unfold KV at hk0
  have hD' := hD
  obtain ⟨d1, d2, d3, d4⟩ := hD
  have emo : mo t = S 4 t := c5' t ht
  refine Tr.of2 (ls0 := [.ref 24, .int (nI t), .int th, dead, dead, dead]) hG mo_X1_wishOf (Nat.le_of_ble_eq_true rfl) rfl ?_
  intro X hi hd hXn hXz hXf hQ
  have hid : ¬ (S 4 t = 3 ∧ th = 0) → upS S 0 2 (drS S th t) = S := fun q => by rw [drS, if_neg q, upS_id]
  have h51 : ∀ R, (R = 10 ∨ R = 1) → ¬ S 4 t = 3 → ¬ S 4 t = 0 → R = (if S 4 t = 1 then 10 else 1) → V G X 51 [.ref 24, .int (nI t), .int th, .int (S 4 t), dead, dead] [.int (nI R), .int (nI t), .ref 20] n z f := by
    intro R hR h3 h0 eR
    refine wp_sound (by rw [hi]; exact ok_X1_wishOf) (hd := [28, 54, 83]) 400 _ _ _ _ _ _ ?_
    simp only [wp, stp, List.mem_cons, List.not_mem_nil, Nat.reduceEqDiff, or_false, or_self, false_or, or_true, true_or, Nat.reduceAdd, ↓reduceIte, List.getElem?_cons_zero, List.getElem?_cons_succ, nthV, List.set_cons_zero, List.set_cons_succ, noL, popA, catS, Value.category, List.length_cons, List.length_nil, Nat.reduceLT, Nat.reduceLeDiff, true_and, and_true, one0, zer1, imp_t, imp_f, ofN_nI, sdead, f20, f21, not_true_eq_false, upC_ap, upC_upC, retC, fitC, isRefT, Option.toList_some, Option.toList_none, List.cons_append, List.nil_append, Nat.lt_add_one, Nat.zero_lt_succ, Nat.le_refl, Nat.add_zero, Nat.zero_add, Nat.one_ne_zero, Nat.zero_ne_one, Nat.lt_irrefl, List.length_set, fa_X1_wishOf, hi, hd, hQ, mr_X1_wishOf, hk0]
    refine ⟨by omega, _, t_findBest hG (by omega) hB hW hV hk ht hh eh hR, ?_⟩
    rintro v n1 z1 f1 ⟨rfl, hW1, hk1, hF1, hn1⟩
    obtain ⟨kn1, fk1, fa1, ne1, hk1'⟩ := id hk1
    unfold KV at hk1'
    have d1' : f1 24 = _ := (hF1.1 24 (by omega) (by decide)).trans d1
    have c1' := hW1.1.1
    refine wp_sound (by rw [hi]; exact ok_X1_wishOf) (hd := [28, 54, 83]) 400 _ _ _ _ _ _ ?_
    simp only [wp, stp, List.mem_cons, List.not_mem_nil, Nat.reduceEqDiff, or_false, or_self, false_or, or_true, true_or, Nat.reduceAdd, ↓reduceIte, List.getElem?_cons_zero, List.getElem?_cons_succ, nthV, List.set_cons_zero, List.set_cons_succ, noL, popA, catS, Value.category, List.length_cons, List.length_nil, Nat.reduceLT, Nat.reduceLeDiff, true_and, and_true, one0, zer1, imp_t, imp_f, ofN_nI, sdead, f20, f21, not_true_eq_false, upC_ap, upC_upC, retC, fitC, isRefT, Option.toList_some, Option.toList_none, List.cons_append, List.nil_append, Nat.lt_add_one, Nat.zero_lt_succ, Nat.le_refl, Nat.add_zero, Nat.zero_add, Nat.one_ne_zero, Nat.zero_ne_one, Nat.lt_irrefl, List.length_set, fa_X1_wishOf, hi, hd, hQ, mr_X1_wishOf, d1', hk1', c1', efi]
    refine ⟨by omega, _, t_payOf_20 hG (by omega) hB hW1 hV hk1 ht (hS.2.2.1 t ht), ?_⟩
    rintro v n2 z2 f2 ⟨rfl, hW2, hk2, hF2, hn2⟩
    refine wp_sound (by rw [hi]; exact ok_X1_wishOf) (hd := [28, 54, 83]) 400 _ _ _ _ _ _ ?_
    simp only [wp, stp, List.mem_cons, List.not_mem_nil, Nat.reduceEqDiff, or_false, or_self, false_or, or_true, true_or, Nat.reduceAdd, ↓reduceIte, List.getElem?_cons_zero, List.getElem?_cons_succ, nthV, List.set_cons_zero, List.set_cons_succ, noL, popA, catS, Value.category, List.length_cons, List.length_nil, Nat.reduceLT, Nat.reduceLeDiff, true_and, and_true, one0, zer1, imp_t, imp_f, ofN_nI, sdead, f20, f21, not_true_eq_false, upC_ap, upC_upC, retC, fitC, isRefT, Option.toList_some, Option.toList_none, List.cons_append, List.nil_append, Nat.lt_add_one, Nat.zero_lt_succ, Nat.le_refl, Nat.add_zero, Nat.zero_add, Nat.one_ne_zero, Nat.zero_ne_one, Nat.lt_irrefl, List.length_set, fa_X1_wishOf, hi, hd, hQ, mr_X1_wishOf]
    have fin : CW (upS S 0 2 (drS S th t)) L lp N Z K f2 n2 z2 ∧ FRM [1, 13, 14, 15, 20, 21] f n f2 ∧ n ≤ n2 := by
      rw [hid (fun q => h3 q.1)]
      exact ⟨hW2, (FRM.trans hF1 hn1 hF2.k).mono (fun x hx => by simp at hx ⊢; omega), by omega⟩
    have hpl := pyN_le S L 1 t
    have ew : wishS S L th t = wsF S L R t := by rw [wishS, if_neg h3, if_neg h0, eR]
    rw [ew, wsF, eh, hch, efi, nI_clamp (by omega)]
    cases er : fsb S L t R h with
    | none =>
      refine ⟨fun _ => ⟨rfl, fin⟩, fun q => absurd ?_ q⟩
      show M1 - nI fi ≤ nI (pyN S L 1 t)
      rw [m1_sub, sub_le (by omega) (by omega) (by omega)]
      omega
    | some q =>
      obtain ⟨a1, a2, a3⟩ := amx_in er
      have a4 : q.2 ≤ 9999 := by rw [a3]; exact payF_le _ _ _ _ _ _
      show (nI q.2 - nI fi ≤ nI (pyN S L 1 t) → _) ∧ (¬ nI q.2 - nI fi ≤ nI (pyN S L 1 t) → _)
      rw [sub_le (by omega) (by omega) (by omega)]
      dsimp only
      refine ⟨fun w => ⟨?_, fin⟩, fun w => ⟨?_, fin⟩⟩
      · rw [if_neg (by omega)]; rfl
      · rw [if_pos (by omega)]; rfl
  refine wp_sound (by rw [hi]; exact ok_X1_wishOf) (hd := [28, 51, 54, 83]) 400 _ _ _ _ _ _ ?_
  simp only [wp, stp, List.mem_cons, List.not_mem_nil, Nat.reduceEqDiff, or_false, or_self, false_or, or_true, true_or, Nat.reduceAdd, ↓reduceIte, List.getElem?_cons_zero, List.getElem?_cons_succ, nthV, List.set_cons_zero, List.set_cons_succ, noL, popA, catS, Value.category, List.length_cons, List.length_nil, Nat.reduceLT, Nat.reduceLeDiff, true_and, and_true, one0, zer1, imp_t, imp_f, ofN_nI, sdead, f20, f21, not_true_eq_false, upC_ap, upC_upC, retC, fitC, isRefT, Option.toList_some, Option.toList_none, List.cons_append, List.nil_append, Nat.lt_add_one, Nat.zero_lt_succ, Nat.le_refl, Nat.add_zero, Nat.zero_add, Nat.one_ne_zero, Nat.zero_ne_one, Nat.lt_irrefl, List.length_set, fa_X1_wishOf, hi, hd, hQ, mr_X1_wishOf, d1, c1, c5, hct, emo]
  refine ⟨hit, fun h3 => ⟨fun h0 => ⟨fun q => h51 1 (Or.inr rfl) h3 h0 (by rw [if_neg q]), fun q => h51 10 (Or.inl rfl) h3 h0 (by rw [if_pos q])⟩, fun h0 => ?_⟩, fun h3 => ⟨fun q => ⟨by omega, _, t_whimOf hG (by omega) hB hW hD' ht, ?_⟩, fun q => ?_⟩⟩
  · refine ⟨by rw [wishS, if_neg h3, if_pos h0]; rfl, ?_⟩
    rw [hid (fun q => h3 q.1)]
    exact ⟨hW, FRM.refl _ _ _⟩
  · rintro v n1 z1 f1 ⟨rfl, rfl, rfl, hW1, hf1⟩
    refine wp_sound (by rw [hi]; exact ok_X1_wishOf) (hd := [28, 54, 83]) 400 _ _ _ _ _ _ ?_
    simp only [wp, stp, List.mem_cons, List.not_mem_nil, Nat.reduceEqDiff, or_false, or_self, false_or, or_true, true_or, Nat.reduceAdd, ↓reduceIte, List.getElem?_cons_zero, List.getElem?_cons_succ, nthV, List.set_cons_zero, List.set_cons_succ, noL, popA, catS, Value.category, List.length_cons, List.length_nil, Nat.reduceLT, Nat.reduceLeDiff, true_and, and_true, one0, zer1, imp_t, imp_f, ofN_nI, sdead, f20, f21, not_true_eq_false, upC_ap, upC_upC, retC, fitC, isRefT, Option.toList_some, Option.toList_none, List.cons_append, List.nil_append, Nat.lt_add_one, Nat.zero_lt_succ, Nat.le_refl, Nat.add_zero, Nat.zero_add, Nat.one_ne_zero, Nat.zero_ne_one, Nat.lt_irrefl, List.length_set, fa_X1_wishOf, hi, hd, hQ, mr_X1_wishOf]
    have e2 : drS S th t = drI (drI (S 0 2)) := if_pos ⟨h3, q⟩
    refine ⟨by rw [wishS, if_pos h3, if_pos q], by rw [e2]; exact hW1, ⟨fun x a b => hf1 x (by simp at b; omega), fun x a _ _ => hf1 x (by omega), fun x a => hf1 x (by omega)⟩⟩
  · refine wp_sound (by rw [hi]; exact ok_X1_wishOf) (hd := [28, 54, 83]) 400 _ _ _ _ _ _ ?_
    simp only [wp, stp, List.mem_cons, List.not_mem_nil, Nat.reduceEqDiff, or_false, or_self, false_or, or_true, true_or, Nat.reduceAdd, ↓reduceIte, List.getElem?_cons_zero, List.getElem?_cons_succ, nthV, List.set_cons_zero, List.set_cons_succ, noL, popA, catS, Value.category, List.length_cons, List.length_nil, Nat.reduceLT, Nat.reduceLeDiff, true_and, and_true, one0, zer1, imp_t, imp_f, ofN_nI, sdead, f20, f21, not_true_eq_false, upC_ap, upC_upC, retC, fitC, isRefT, Option.toList_some, Option.toList_none, List.cons_append, List.nil_append, Nat.lt_add_one, Nat.zero_lt_succ, Nat.le_refl, Nat.add_zero, Nat.zero_add, Nat.one_ne_zero, Nat.zero_ne_one, Nat.lt_irrefl, List.length_set, fa_X1_wishOf, hi, hd, hQ, mr_X1_wishOf]
    refine ⟨by rw [wishS, if_pos h3, if_neg q]; rfl, ?_⟩
    rw [hid (fun z => q z.2)]
    exact ⟨hW, FRM.refl _ _ _⟩
end Days1
