-- the law itself
set_option maxRecDepth 100000
set_option maxHeartbeats 8000000
section Lms
variable {G : Gam} {d n z len sp i : Nat} {f f' : Mf} {scr : Nat → Int32} {X : Fx}
theorem WX.more (h : WX sp len scr i f n z) : WX sp len scr (i + 1) f n z := by
  obtain ⟨h1, S, L, tb, tl, fk, fp, kp, I, W, A, s, hm, ⟨lp, N, Z, K, ro, to, ko, hz, hX⟩, hR⟩ := h
  exact ⟨h1, S, L, tb, tl, fk, fp, kp, I, W, A, s, hm, ⟨lp, N, Z, K, ro, to, ko, hz.up (by omega) (by omega) (by omega), hX⟩, hR⟩
theorem t_next (hG : Ok G) (hi : X.i = 212) (hd : X.d = d) (hQ : ∀ n z f, X.Q (some (.int 1)) n z f) (hlen : 6 * i + 6 ≤ 3072) (h : V G X 18 [.ref sp, .ref 0, .ref 31, .int (nI (6 * i + 6))] [] n z f) : V G X 916 [.ref sp, .ref 0, .ref 31, .int (nI (6 * i))] [] n z f := by
  refine wp_sound (by rw [hi]; exact ok_L_law) (hd := [18]) 400 _ _ _ _ _ _ ?_
  simp only [wp, stp, List.mem_cons, List.not_mem_nil, Nat.reduceEqDiff, or_false, or_self, false_or, or_true, true_or, Nat.reduceAdd, ↓reduceIte, List.getElem?_cons_zero, List.getElem?_cons_succ, nthV, List.set_cons_zero, List.set_cons_succ, noL, popA, catS, Value.category, List.length_cons, List.length_nil, Nat.reduceLT, Nat.reduceLeDiff, true_and, and_true, one0, zer1, imp_t, imp_f, ofN_nI, sdead, f20, f21, not_true_eq_false, upC_ap, upC_upC, retC, fitC, isRefT, Option.toList_some, Option.toList_none, List.cons_append, List.nil_append, Nat.lt_add_one, Nat.zero_lt_succ, Nat.le_refl, Nat.add_zero, Nat.zero_add, Nat.one_ne_zero, Nat.zero_ne_one, Nat.lt_irrefl, List.length_set, fa_L_law_c, hi, hd, hQ, mr_L_law, tg_L_law, swt, lks, Int.reduceAdd]
  try simp only [m1f]
  try simp (disch := omega) only [nmod, nI_leI, nI_ltI, nI_eq, nI_clamp, vin_nI, nI_1, fa_lit, nI_add, nI_rm3, nI_rm2, pk_rem, pk_mul, pk_sub, pk_div, nI_eM, nI_Me, nI_pM, nI_pMz, nI_pM0, M1_lt, M1_le, nI_ltM, nI_leM, i8_nI, true_and, and_true, false_implies, true_implies, not_false_eq_true, not_true_eq_false, ne_eq, implies_true, Nat.not_lt_zero, Nat.zero_le, ite_min, max0, Nat.reduceLT, Nat.reduceLeDiff, Nat.reduceEqDiff, Nat.reduceAdd, Nat.reduceMul]
  try simp only [m1u]
  exact h
theorem t_loop (hG : Ok G) (hi : X.i = 212) (hd : X.d = d) (hd1 : 42 ≤ d) (hQ : ∀ n z f, X.Q (some (.int 1)) n z f) (hsp : 1000000 ≤ sp) (hlen : len ≤ 3072) : ∀ k j i n z f, j < k → 6 * i + j = len → WX sp len scr i f n z → V G X 18 [.ref sp, .ref 0, .ref 31, .int (nI (6 * i))] [] n z f := by
  intro k
  induction k with
  | zero => intro j i n z f hj; exact absurd hj (Nat.not_lt_zero j)
  | succ k ih =>
    intro j i n z f hj hij hW
    refine t_lhead hG hi hd hQ hlen hW.1 (by omega) (fun x h6 => ?_)
    have nxt : ∀ n z f, WX sp len scr (i + 1) f n z → V G X 916 [.ref sp, .ref 0, .ref 31, .int (nI (6 * i))] [] n z f := by
      intro n z f hW2
      refine t_next hG hi hd hQ (by omega) ?_
      have := ih (j - 6) (i + 1) n z f (by omega) (by omega) hW2
      rw [show 6 * (i + 1) = 6 * i + 6 by omega] at this
      exact this
    refine t_sw hi (nxt _ _ _ hW.more) (fun q hq => ?_)
    rcases (by omega : q = 0 ∨ q = 1 ∨ q = 2 ∨ q = 3 ∨ q = 4 ∨ q = 5 ∨ q = 6 ∨ q = 7 ∨ q = 8 ∨ q = 9 ∨ q = 10 ∨ q = 11 ∨ q = 12 ∨ q = 13 ∨ q = 14 ∨ q = 15 ∨ q = 16 ∨ q = 17 ∨ q = 18 ∨ q = 19 ∨ q = 20 ∨ q = 21 ∨ q = 22 ∨ q = 23 ∨ q = 24 ∨ q = 25) with e | e | e | e | e | e | e | e | e | e | e | e | e | e | e | e | e | e | e | e | e | e | e | e | e | e <;> subst e
    · exact t_br_0 hG hi hd hd1 hQ hsp hlen h6 nxt hW
    · exact t_br_1 hG hi hd hd1 hQ hsp hlen h6 nxt hW
    · exact t_br_2 hG hi hd hd1 hQ hsp hlen h6 nxt hW
    · exact t_br_3 hG hi hd hd1 hQ hsp hlen h6 nxt hW
    · exact t_br_4 hG hi hd hd1 hQ hsp hlen h6 nxt hW
    · exact t_br_5 hG hi hd hd1 hQ hsp hlen h6 nxt hW
    · exact t_br_6 hG hi hd hd1 hQ hsp hlen h6 nxt hW
    · exact t_br_7 hG hi hd hd1 hQ hsp hlen h6 nxt hW
    · exact t_br_8 hG hi hd hd1 hQ hsp hlen h6 nxt hW
    · exact t_br_9 hG hi hd hd1 hQ hsp hlen h6 nxt hW
    · exact t_br_10 hG hi hd hd1 hQ hsp hlen h6 nxt hW
    · exact t_br_11 hG hi hd hd1 hQ hsp hlen h6 nxt hW
    · exact t_br_12 hG hi hd hd1 hQ hsp hlen h6 nxt hW
    · exact t_br_13 hG hi hd hd1 hQ hsp hlen h6 nxt hW
    · exact t_br_14 hG hi hd hd1 hQ hsp hlen h6 nxt hW
    · exact t_br_15 hG hi hd hd1 hQ hsp hlen h6 nxt hW
    · exact t_br_16 hG hi hd hd1 hQ hsp hlen h6 nxt hW
    · exact t_br_17 hG hi hd hd1 hQ hsp hlen h6 nxt hW
    · exact t_br_18 hG hi hd hd1 hQ hsp hlen h6 nxt hW
    · exact t_br_19 hG hi hd hd1 hQ hsp hlen h6 nxt hW
    · exact t_br_20 hG hi hd hd1 hQ hsp hlen h6 nxt hW
    · exact t_br_21 hG hi hd hd1 hQ hsp hlen h6 nxt hW
    · exact t_br_22 hG hi hd hd1 hQ hsp hlen h6 nxt hW
    · exact t_br_23 hG hi hd hd1 hQ hsp hlen h6 nxt hW
    · exact t_br_24 hG hi hd hd1 hQ hsp hlen h6 nxt hW
    · exact t_br_25 hG hi hd hd1 hQ hsp hlen h6 nxt hW
theorem XI.cong (h : XI f) (hf : ∀ x, x < 31 → f' x = f x) : XI f' := by
  obtain ⟨h0, hC, hr⟩ := h
  refine ⟨by rw [hf 0 (by omega)]; exact h0, hC.cong (fun x a b => hf x (by omega)), ?_⟩
  rw [hf 10 (by omega), hf 11 (by omega), hf 12 (by omega), hf 13 (by omega), hf 14 (by omega), hf 15 (by omega), hf 16 (by omega), hf 17 (by omega), hf 18 (by omega), hf 19 (by omega), hf 20 (by omega), hf 21 (by omega), hf 22 (by omega), hf 23 (by omega), hf 24 (by omega), hf 25 (by omega), hf 26 (by omega), hf 27 (by omega), hf 28 (by omega), hf 29 (by omega), hf 30 (by omega)]
  exact hr
theorem t_law (hG : Ok G) (hi : X.i = 212) (hd : X.d = d) (hd1 : 42 ≤ d) (hQ : ∀ n z f, X.Q (some (.int 1)) n z f) (hsp : 1000000 ≤ sp) (hlen : len ≤ 3072) (h1 : f sp = cI len scr) (hO : OC f) (hA : StrA f) : V G X 0 [.ref sp, dead, dead, dead] [] 0 0 f := by
  have hCAP : CAP = 600000 := rfl
  have hSCAP : SCAP = 7302249 := rfl
  have k8 : clK 8 = 14 := rfl
  have k9 : clK 9 = 36 := rfl
  refine wp_sound (by rw [hi]; exact ok_L_law) (hd := [7, 15, 18]) 400 _ _ _ _ _ _ ?_
  simp only [wp, stp, List.mem_cons, List.not_mem_nil, Nat.reduceEqDiff, or_false, or_self, false_or, or_true, true_or, Nat.reduceAdd, ↓reduceIte, List.getElem?_cons_zero, List.getElem?_cons_succ, nthV, List.set_cons_zero, List.set_cons_succ, noL, popA, catS, Value.category, List.length_cons, List.length_nil, Nat.reduceLT, Nat.reduceLeDiff, true_and, and_true, one0, zer1, imp_t, imp_f, ofN_nI, sdead, f20, f21, not_true_eq_false, upC_ap, upC_upC, retC, fitC, isRefT, Option.toList_some, Option.toList_none, List.cons_append, List.nil_append, Nat.lt_add_one, Nat.zero_lt_succ, Nat.le_refl, Nat.add_zero, Nat.zero_add, Nat.one_ne_zero, Nat.zero_ne_one, Nat.lt_irrefl, List.length_set, fa_L_law_a, hi, hd, hQ, mr_L_law, k8, tg_L_law, swt, lks, Int.reduceAdd]
  refine ⟨by omega, by omega, by omega, _, t8_init hG (by omega) (by omega) (upC_self _ _ _), ?_⟩
  rintro v n1 z1 f1 ⟨rfl, rfl, rfl, hI, hf1⟩
  refine wp_sound (by rw [hi]; exact ok_L_law) (hd := [15, 18]) 400 _ _ _ _ _ _ ?_
  simp only [wp, stp, List.mem_cons, List.not_mem_nil, Nat.reduceEqDiff, or_false, or_self, false_or, or_true, true_or, Nat.reduceAdd, ↓reduceIte, List.getElem?_cons_zero, List.getElem?_cons_succ, nthV, List.set_cons_zero, List.set_cons_succ, noL, popA, catS, Value.category, List.length_cons, List.length_nil, Nat.reduceLT, Nat.reduceLeDiff, true_and, and_true, one0, zer1, imp_t, imp_f, ofN_nI, sdead, f20, f21, not_true_eq_false, upC_ap, upC_upC, retC, fitC, isRefT, Option.toList_some, Option.toList_none, List.cons_append, List.nil_append, Nat.lt_add_one, Nat.zero_lt_succ, Nat.le_refl, Nat.add_zero, Nat.zero_add, Nat.one_ne_zero, Nat.zero_ne_one, Nat.lt_irrefl, List.length_set, fa_L_law_a, hi, hd, hQ, mr_L_law, k9, tg_L_law, swt, lks, Int.reduceAdd]
  refine ⟨by omega, by omega, by omega, _, t9_init hG (by omega) (by omega) (upC_self _ _ _) (fun _ => 0), ?_⟩
  rintro v n2 z2 f2 ⟨rfl, rfl, rfl, I, W, A, s, rfl, hR⟩
  have eo : ∀ x, x < 31 ∨ 48 < x → mM (upC f1 31 (cO 9 (new0 9))) I W A s x = f1 x := fun x hx => by rw [mM_o hx, upC_ne _ _ (by omega)]
  have eold : ∀ x, 1000000 ≤ x → mM (upC f1 31 (cO 9 (new0 9))) I W A s x = f x := fun x hx => by rw [eo x (by omega), hf1 x (by omega), upC_ne _ _ (by omega)]
  refine wp_sound (by rw [hi]; exact ok_L_law) (hd := [18]) 400 _ _ _ _ _ _ ?_
  simp only [wp, stp, List.mem_cons, List.not_mem_nil, Nat.reduceEqDiff, or_false, or_self, false_or, or_true, true_or, Nat.reduceAdd, ↓reduceIte, List.getElem?_cons_zero, List.getElem?_cons_succ, nthV, List.set_cons_zero, List.set_cons_succ, noL, popA, catS, Value.category, List.length_cons, List.length_nil, Nat.reduceLT, Nat.reduceLeDiff, true_and, and_true, one0, zer1, imp_t, imp_f, ofN_nI, sdead, f20, f21, not_true_eq_false, upC_ap, upC_upC, retC, fitC, isRefT, Option.toList_some, Option.toList_none, List.cons_append, List.nil_append, Nat.lt_add_one, Nat.zero_lt_succ, Nat.le_refl, Nat.add_zero, Nat.zero_add, Nat.one_ne_zero, Nat.zero_ne_one, Nat.lt_irrefl, List.length_set, fa_L_law_a, hi, hd, hQ, mr_L_law, tg_L_law, swt, lks, Int.reduceAdd]
  exact t_loop hG hi hd hd1 hQ hsp hlen (len + 1) len 0 _ _ _ (by omega) (by omega) ⟨(eold sp hsp).trans h1, S0s, L0, fun _ => 0, 0, 0, -1, none, I, W, A, s, mM.eq (f0 := upC f1 31 (cO 9 (new0 9))) (fun _ _ _ => rfl), (hI.cong (fun x hx => eo x (by omega))).xw (hO.cong eold) (hA.old eold) (by omega), hR⟩
end Lms
