-- Reader: an amount
set_option maxRecDepth 100000
set_option maxHeartbeats 4000000
def jnE (j : Nat) (a p : EV) : EV := if j = 3 then p else if j = 4 then fun F => a F + p F else fun F => a F - p F
def cnt2 (K U : Nat → Nat) (n1 n2 k : Nat) (j : Nat) (a u : EV) : Res EV := match pPr K U n1 k u with | .inl e => .inl e | .inr (k2, p) => pSm K U n2 k2 (jnE j a p)
section Cnt
variable {K U : Nat → Nat} {n1 n2 k j : Nat} {a u : EV}
theorem cnt2_42 (h : K k = 42) : cnt2 K U (n1 + 1) n2 k j a u = match pUn K U (k + 1) with | .inl e => .inl e | .inr (k3, u2) => cnt2 K U n1 n2 k3 j a (fun F => u F * u2 F) := by
  unfold cnt2; rw [pPr, if_pos h]
  cases pUn K U (k + 1) with
  | inl e => rfl
  | inr q => rfl
theorem cnt2_47 (h : K k = 47) : cnt2 K U (n1 + 1) n2 k j a u = match pPa K U (k + 1) with | .inl e => .inl e | .inr (k3, d) => cnt2 K U n1 n2 k3 j a (fun F => u F / nI d) := by
  unfold cnt2; rw [pPr, if_neg (by omega), if_pos h]
  cases pPa K U (k + 1) with
  | inl e => rfl
  | inr q => rfl
theorem pPr_end (h1 : ¬ K k = 42) (h2 : ¬ K k = 47) : pPr K U n1 k u = .inr (k, u) := by
  cases n1 with
  | zero => rfl
  | succ n => rw [pPr, if_neg h1, if_neg h2]
theorem pSm_end (h1 : ¬ K k = 43) (h2 : ¬ K k = 45) : pSm K U n1 k u = .inr (k, u) := by
  cases n1 with
  | zero => rfl
  | succ n => rw [pSm, if_neg h1, if_neg h2]
theorem cnt2_43 (h : K k = 43) : cnt2 K U n1 (n2 + 1) k j a u = match pUn K U (k + 1) with | .inl e => .inl e | .inr (k3, u2) => cnt2 K U 400 n2 k3 4 (jnE j a u) u2 := by
  unfold cnt2; rw [pPr_end (by omega) (by omega)]
  show pSm K U (n2 + 1) k (jnE j a u) = _
  rw [pSm, if_pos h]
  unfold pPd
  cases pUn K U (k + 1) with
  | inl e => rfl
  | inr q =>
    obtain ⟨k3, u2⟩ := q
    dsimp only
    cases pPr K U 400 k3 u2 with
    | inl e => rfl
    | inr q => rfl
theorem cnt2_45 (h : K k = 45) : cnt2 K U n1 (n2 + 1) k j a u = match pUn K U (k + 1) with | .inl e => .inl e | .inr (k3, u2) => cnt2 K U 400 n2 k3 5 (jnE j a u) u2 := by
  unfold cnt2; rw [pPr_end (by omega) (by omega)]
  show pSm K U (n2 + 1) k (jnE j a u) = _
  rw [pSm, if_neg (by omega), if_pos h]
  unfold pPd
  cases pUn K U (k + 1) with
  | inl e => rfl
  | inr q =>
    obtain ⟨k3, u2⟩ := q
    dsimp only
    cases pPr K U 400 k3 u2 with
    | inl e => rfl
    | inr q => rfl
theorem cnt2_end (h1 : ¬ K k = 42) (h2 : ¬ K k = 47) (h3 : ¬ K k = 43) (h4 : ¬ K k = 45) : cnt2 K U n1 n2 k j a u = .inr (k, jnE j a u) := by
  unfold cnt2; rw [pPr_end h1 h2]
  exact pSm_end h3 h4
theorem pE_cnt2 : pE K U k = match pUn K U k with | .inl e => .inl e | .inr (k1, u) => cnt2 K U 400 400 k1 3 (fun _ => 0) u := by
  unfold pE pPd
  cases pUn K U k with
  | inl e => rfl
  | inr q => rfl
end Cnt
/-- an amount: the sum holds it -/
def behE (k c : Nat) : (Nat → Int32) → Nat → Nat → EV → Prop := fun st' k' c' e => (seg st' c c' ∧ c' ≤ c + (k' - k) + 1) ∧ ∀ F R, ∃ pr', rS st' F c c' R = (pr', e F, R.2.2)
section Rd2
variable {G : Gam} {d n z rp T k c : Nat} {f0 : Mf} {I kd pl vl st : Nat → Int32} {K U P : Nat → Nat}
theorem RdP.err {α : Type} {beh : (Nat → Int32) → Nat → Nat → α → Prop} {why j c' : Nat} {I' st' : Nat → Int32} (h0 : I' 0 = nI why) (h1 : I' 1 = nI (P j)) (h8 : I' 8 = nI c') (hc : c' ≤ 800) : RdP beh K U P f0 rp I kd pl vl st k c (.inl (why, j)) n z (some (.int 0)) n z (rM f0 rp I' kd pl vl st') := ⟨⟨rfl, rfl⟩, rfl, I', st', c', rfl, ⟨h0, h1⟩, h8, hc⟩
theorem t_readAmount (hG : Ok G) (hd1 : 2 ≤ d) (hrp : rp + 5 ≤ 1000000) (hT : TkR K U P T kd pl vl) (hP : PSt T I k c) (hck : c + 2 ≤ 2 * k) : Tr G d 72 [.ref rp] n z (rM f0 rp I kd pl vl st) (RdP (behE k c) K U P f0 rp I kd pl vl st k c (pE K U k) n z) := by
  obtain ⟨⟨h5, h6, h8⟩, ⟨hk, hc⟩, h10⟩ := id hP
  obtain ⟨hS, hR, hB⟩ := id hT
  have hT4 := hS.1
  refine Tr.of2 (ls0 := [.ref rp, dead, dead, dead]) hG mo_X5_readAmount (Nat.le_of_ble_eq_true rfl) rfl ?_
  intro X hi hd hXn hXz hXf hQ
  have loop : ∀ m i k1 c1 j n1 n2 a u I1 st1 u3, i + m = 400 → (k < k1 ∧ k1 ≤ T ∧ i ≤ k1 - k) → (j = 3 ∨ j = 4 ∨ j = 5) → (T ≤ k1 + n1 ∧ T ≤ k1 + n2) → pE K U k = cnt2 K U n1 n2 k1 j a u → PSt T I1 k1 c1 → SmI I I1 → I1 10 = aeU (I 10) (evR K U k k1) → (∀ i, i < c → st1 i = st i) → seg st1 c c1 → c1 ≤ c + (k1 - k) → (∀ F R, ∃ s', rS st1 F c c1 R = (u F, s', R.2.2) ∧ (j = 3 ∨ s' = a F)) → V G X 14 [.ref rp, .int (nI j), .int (nI i), u3] [] n z (rM f0 rp I1 kd pl vl st1) := by
    intro m
    induction m with
    | zero => intro i k1 c1 j n1 n2 a u I1 st1 u3 hi0 hk1; omega
    | succ m ih =>
      intro i k1 c1 j n1 n2 a u I1 st1 u3 hi0 hk1 hj hfu hpe hP1 hI1 hae hst hsg hcb hbe
      obtain ⟨⟨g5, g6, g8⟩, ⟨gk, gc⟩, g10⟩ := id hP1
      have hkk : (nI k1).toNatClampNeg = k1 := nI_clamp (by omega)
      obtain ⟨ek, ep, ev⟩ := hR k1 gk
      have bk := (hB k1 gk).1
      have hin : vp_in (nI k1) 401 := (vin_nI (by omega)).mpr (by omega)
      have hne : ∀ x : Nat, x < 300 → (nI (K k1) = nI x ↔ K k1 = x) := fun x hx => nI_eq (by omega) (by omega)
      have cs : ¬ (400 : Int32) ≤ nI i := fun q => absurd ((nI_leI (a := 400) (by omega) (by omega)).mp q) (by omega)
      -- one step of a kind below 14, put behind
      have app : ∀ (st2 : Nat → Int32) (a b : Nat), (∀ i, i < c1 → st2 i = st1 i) → st2 c1 = nI (65536 * a + b) → a < 14 → b < 65536 → seg st2 c (c1 + 1) ∧ ∀ F R, rS st2 F c (c1 + 1) R = rg1 F a b (rS st1 F c c1 R) := fun st2 a b h1 h2 h3 h4 => by
        obtain ⟨s1, s2⟩ := hsg.cong h1
        obtain ⟨o1, o2⟩ := seg.one h2 h3 h4
        obtain ⟨j1, j2⟩ := s1.join o1
        exact ⟨j1, fun F R => by rw [j2, o2, s2]⟩
      have h134 : pE K U k = .inr (k1, jnE j a u) → V G X 134 [.ref rp, .int (nI j), .int (nI i), .int (nI (K k1))] [] n z (rM f0 rp I1 kd pl vl st1) := by
        intro hpe
        rw [hpe] at hQ
        refine wp_sound (by rw [hi]; exact ok_X5_readAmount) (hd := [7, 14, 62, 80, 102, 123, 140]) 400 _ _ _ _ _ _ ?_
        simp (disch := omega) only [wp, stp, List.mem_cons, List.not_mem_nil, Nat.reduceEqDiff, or_false, or_self, false_or, or_true, true_or, Nat.reduceAdd, ↓reduceIte, List.getElem?_cons_zero, List.getElem?_cons_succ, nthV, List.set_cons_zero, List.set_cons_succ, noL, popA, catS, Value.category, List.length_cons, List.length_nil, Nat.reduceLT, Nat.reduceLeDiff, true_and, and_true, one0, zer1, imp_t, imp_f, ofN_nI, sdead, f20, f21, not_true_eq_false, upC_self, upC_ne, upC_upC, retC, fitC, isRefT, Option.toList_some, Option.toList_none, List.cons_append, List.nil_append, Nat.lt_add_one, Nat.zero_lt_succ, Nat.le_refl, Nat.add_zero, Nat.zero_add, Nat.one_ne_zero, Nat.zero_ne_one, Nat.lt_irrefl, List.length_set, fa_X5_readAmount, hi, hd, hQ, mr_X5_readAmount, rM_0, rM_1, rM_2, rM_3, rM_4, ru_0, ru_1, ru_2, ru_3, ru_4, rO_len, rg_0, rg_1, rg_2, rg_3, rg_4, rg_5, rg_6, rg_7, rg_8, rg_9, rg_10, rs_0, rs_1, rs_5, rs_6, rs_8, rs_9, rs_10]
        refine ⟨by omega, _, t_addStep hG hrp g8 gc (a := j) (b := 0) (by omega) (by omega), ?_⟩
        rintro v n2 z2 f2 ⟨rfl, ⟨rfl, rfl⟩, h⟩
        rcases h with ⟨-, rfl⟩ | ⟨q, -⟩
        · obtain ⟨s1, s2⟩ := app (upd st1 c1 (nI (65536 * j))) j 0 (fun i hi' => upd_lt hi') upd_self (by omega) (by omega)
          refine wp_sound (by rw [hi]; exact ok_X5_readAmount) (hd := [7, 14, 62, 80, 102, 123, 140]) 400 _ _ _ _ _ _ ?_
          simp (disch := omega) only [wp, stp, List.mem_cons, List.not_mem_nil, Nat.reduceEqDiff, or_false, or_self, false_or, or_true, true_or, Nat.reduceAdd, ↓reduceIte, List.getElem?_cons_zero, List.getElem?_cons_succ, nthV, List.set_cons_zero, List.set_cons_succ, noL, popA, catS, Value.category, List.length_cons, List.length_nil, Nat.reduceLT, Nat.reduceLeDiff, true_and, and_true, one0, zer1, imp_t, imp_f, ofN_nI, sdead, f20, f21, not_true_eq_false, upC_self, upC_ne, upC_upC, retC, fitC, isRefT, Option.toList_some, Option.toList_none, List.cons_append, List.nil_append, Nat.lt_add_one, Nat.zero_lt_succ, Nat.le_refl, Nat.add_zero, Nat.zero_add, Nat.one_ne_zero, Nat.zero_ne_one, Nat.lt_irrefl, List.length_set, fa_X5_readAmount, hi, hd, hQ, mr_X5_readAmount, rM_0, rM_1, rM_2, rM_3, rM_4, ru_0, ru_1, ru_2, ru_3, ru_4, rO_len, rg_0, rg_1, rg_2, rg_3, rg_4, rg_5, rg_6, rg_7, rg_8, rg_9, rg_10, rs_0, rs_1, rs_5, rs_6, rs_8, rs_9, rs_10]
          refine ⟨⟨rfl, rfl⟩, rfl, _, _, c1 + 1, rfl, hI1.trans (fun j a1 a2 a3 => by rw [upd_ap, if_neg a2]), ⟨g6, rfl, hae⟩, fun i hi' => by rw [upd_lt (by have := hsg.1; omega)]; exact hst i hi', ⟨s1, by omega⟩, fun F R => ?_⟩
          obtain ⟨s', e1, e2⟩ := hbe F R
          rw [s2, e1]
          rcases hj with rfl | rfl | rfl
          · exact ⟨u F, rfl⟩
          · rcases e2 with e2 | e2
            · omega
            · exact ⟨u F, by rw [e2]; rfl⟩
          · rcases e2 with e2 | e2
            · omega
            · exact ⟨u F, by rw [e2]; rfl⟩
        · omega
      have h128 : ∀ k3 c3 j3 n13 n23 a3 u3 I3 st3, (k1 + 1 < k3 ∧ k3 ≤ T) → (j3 = 3 ∨ j3 = 4 ∨ j3 = 5) → (T ≤ k3 + n13 ∧ T ≤ k3 + n23) → pE K U k = cnt2 K U n13 n23 k3 j3 a3 u3 → PSt T I3 k3 c3 → SmI I I3 → I3 10 = aeU (I 10) (evR K U k k3) → (∀ i, i < c → st3 i = st i) → seg st3 c c3 → c3 ≤ c + (k3 - k) → (∀ F R, ∃ s', rS st3 F c c3 R = (u3 F, s', R.2.2) ∧ (j3 = 3 ∨ s' = a3 F)) → V G X 128 [.ref rp, .int (nI j3), .int (nI i), .int (nI (K k1))] [] n z (rM f0 rp I3 kd pl vl st3) := by
        intro k3 c3 j3 n13 n23 a3 u3 I3 st3 q1 q2 q3 q4 q5 q6 q7 q8 q9 q10 q11
        refine wp_sound (by rw [hi]; exact ok_X5_readAmount) (hd := [7, 14, 62, 80, 102, 123, 140]) 400 _ _ _ _ _ _ ?_
        simp only [wp, stp, List.mem_cons, List.not_mem_nil, Nat.reduceEqDiff, or_false, or_self, false_or, or_true, true_or, Nat.reduceAdd, ↓reduceIte, List.getElem?_cons_zero, List.getElem?_cons_succ, nthV, List.set_cons_zero, List.set_cons_succ, noL, popA, catS, Value.category, List.length_cons, List.length_nil, Nat.reduceLT, Nat.reduceLeDiff, true_and, and_true, one0, zer1, imp_t, imp_f, ofN_nI, sdead, f20, f21, not_true_eq_false, upC_ap, upC_upC, retC, fitC, isRefT, Option.toList_some, Option.toList_none, List.cons_append, List.nil_append, Nat.lt_add_one, Nat.zero_lt_succ, Nat.le_refl, Nat.add_zero, Nat.zero_add, Nat.one_ne_zero, Nat.zero_ne_one, Nat.lt_irrefl, List.length_set, fa_X5_readAmount, hi, hd, hQ, mr_X5_readAmount, rM_0, rM_1, rM_2, rM_3, rM_4, ru_0, ru_1, ru_2, ru_3, ru_4, rO_len, rg_0, rg_1, rg_2, rg_3, rg_4, rg_5, rg_6, rg_7, rg_8, rg_9, rg_10, rs_0, rs_1, rs_5, rs_6, rs_8, rs_9, rs_10]
        try simp only [m1f]
        try simp (disch := omega) only [nmod, nI_leI, nI_ltI, nI_eq, nI_clamp, vin_nI, nI_1, fa_lit, nI_add, nI_rm3, nI_rm2, pk_rem, pk_mul, pk_sub, pk_div, nI_eM, nI_Me, nI_pM, nI_pMz, nI_pM0, M1_lt, M1_le, nI_ltM, nI_leM, i8_nI, true_and, and_true, false_implies, true_implies, not_false_eq_true, not_true_eq_false, ne_eq, implies_true, Nat.not_lt_zero, Nat.zero_le, ite_min, max0, Nat.reduceLT, Nat.reduceLeDiff, Nat.reduceEqDiff, Nat.reduceAdd, Nat.reduceMul]
        try simp only [m1u]
        exact ih (i + 1) k3 c3 j3 n13 n23 a3 u3 I3 st3 _ (by omega) (by omega) q2 q3 q4 q5 q6 q7 q8 q9 q10 q11
      -- a unit behind token k1 + 1, then on
      have unit : ∀ (a' n13 n23 j3 : Nat) (a3 : EV) (I2 st2 : Nat → Int32) (c2 : Nat), k1 < T → ¬ K k1 = 259 → (a' = 0 ∨ a' = 1) → (j3 = 3 ∨ j3 = 4 ∨ j3 = 5) → (T ≤ k1 + 1 + n13 + 1 ∧ T ≤ k1 + 1 + n23 + 1) → PSt T I2 (k1 + 1) c2 → SmI I I2 → I2 10 = aeU (I 10) (evR K U k k1) → (∀ i, i < c → st2 i = st i) → seg st2 c c2 → c2 ≤ c + (k1 + 1 - k) → (∃ W : Fa → Rg → Int32 × Int32, (∀ F R, rS st2 F c c2 R = ((W F R).1, (W F R).2, R.2.2)) ∧ (∀ F R, j3 = 3 ∨ (W F R).2 = a3 F) ∧ (a' = 1 → ∀ F R, (W F R).1 = u F)) → (pE K U k = match pUn K U (k1 + 1) with | .inl e => .inl e | .inr (k3, u2) => cnt2 K U n13 n23 k3 j3 a3 (if a' = 1 then fun F => u F * u2 F else u2)) → V G X 120 [.ref rp, .int (nI j3), .int (nI i), .int (nI (K k1))] [.int (nI a'), .ref rp] n z (rM f0 rp I2 kd pl vl st2) := by
        intro a' n13 n23 j3 a3 I2 st2 c2 hkT hnf ha' hj3 hf3 hP2 hI2 hae2 hst2 hsg2 hcb2 hW hpe3
        obtain ⟨W, w1, w2, w3⟩ := hW
        have hc2 := hsg2.1
        refine wp_sound (by rw [hi]; exact ok_X5_readAmount) (hd := [7, 14, 62, 80, 102, 123, 140]) 400 _ _ _ _ _ _ ?_
        simp (disch := omega) only [wp, stp, List.mem_cons, List.not_mem_nil, Nat.reduceEqDiff, or_false, or_self, false_or, or_true, true_or, Nat.reduceAdd, ↓reduceIte, List.getElem?_cons_zero, List.getElem?_cons_succ, nthV, List.set_cons_zero, List.set_cons_succ, noL, popA, catS, Value.category, List.length_cons, List.length_nil, Nat.reduceLT, Nat.reduceLeDiff, true_and, and_true, one0, zer1, imp_t, imp_f, ofN_nI, sdead, f20, f21, not_true_eq_false, upC_self, upC_ne, upC_upC, retC, fitC, isRefT, Option.toList_some, Option.toList_none, List.cons_append, List.nil_append, Nat.lt_add_one, Nat.zero_lt_succ, Nat.le_refl, Nat.add_zero, Nat.zero_add, Nat.one_ne_zero, Nat.zero_ne_one, Nat.lt_irrefl, List.length_set, fa_X5_readAmount, hi, hd, hQ, mr_X5_readAmount, rM_0, rM_1, rM_2, rM_3, rM_4, ru_0, ru_1, ru_2, ru_3, ru_4, rO_len, rg_0, rg_1, rg_2, rg_3, rg_4, rg_5, rg_6, rg_7, rg_8, rg_9, rg_10, rs_0, rs_1, rs_5, rs_6, rs_8, rs_9, rs_10]
        refine ⟨by omega, _, t_readUnit hG (by omega) hrp hT hP2 (by omega) (show a' < 16 by omega), ?_⟩
        intro v n2 z2 f2 hr
        cases hu : pUn K U (k1 + 1) with
        | inl e =>
          rw [hu] at hr hpe3
          obtain ⟨⟨rfl, rfl⟩, rfl, I', st', c', rfl, ⟨r0, r1⟩, r8, rc⟩ := hr
          rw [hpe3] at hQ
          refine wp_sound (by rw [hi]; exact ok_X5_readAmount) (hd := [7, 14, 62, 80, 102, 123, 128, 140]) 400 _ _ _ _ _ _ ?_
          simp (disch := omega) only [wp, stp, List.mem_cons, List.not_mem_nil, Nat.reduceEqDiff, or_false, or_self, false_or, or_true, true_or, Nat.reduceAdd, ↓reduceIte, List.getElem?_cons_zero, List.getElem?_cons_succ, nthV, List.set_cons_zero, List.set_cons_succ, noL, popA, catS, Value.category, List.length_cons, List.length_nil, Nat.reduceLT, Nat.reduceLeDiff, true_and, and_true, one0, zer1, imp_t, imp_f, ofN_nI, sdead, f20, f21, not_true_eq_false, upC_self, upC_ne, upC_upC, retC, fitC, isRefT, Option.toList_some, Option.toList_none, List.cons_append, List.nil_append, Nat.lt_add_one, Nat.zero_lt_succ, Nat.le_refl, Nat.add_zero, Nat.zero_add, Nat.one_ne_zero, Nat.zero_ne_one, Nat.lt_irrefl, List.length_set, fa_X5_readAmount, hi, hd, hQ, mr_X5_readAmount, rM_0, rM_1, rM_2, rM_3, rM_4, ru_0, ru_1, ru_2, ru_3, ru_4, rO_len, rg_0, rg_1, rg_2, rg_3, rg_4, rg_5, rg_6, rg_7, rg_8, rg_9, rg_10, rs_0, rs_1, rs_5, rs_6, rs_8, rs_9, rs_10]
          intro _
          obtain ⟨why, jj⟩ := e
          exact RdP.err r0 r1 r8 rc
        | inr q =>
          obtain ⟨k3, u2⟩ := q
          obtain ⟨⟨e1, e2⟩, -⟩ := pUn_ok hS (show k1 + 1 ≤ T by omega) k3 u2 hu
          have ek3 : k3 = k1 + 1 + 1 := by
            unfold pUn at hu
            split at hu
            · cases hu; rfl
            · split at hu
              · cases hu; rfl
              · cases hu
          rw [hu] at hr hpe3
          obtain ⟨⟨rfl, rfl⟩, rfl, I', st', c', rfl, rI, ⟨r6, r8, r10⟩, rst, rc', v, rv, rsv, rF⟩ := hr
          subst rc'
          have hpe3 : pE K U k = cnt2 K U n13 n23 k3 j3 a3 (if a' = 1 then fun F => u F * u2 F else u2) := hpe3
          refine wp_sound (by rw [hi]; exact ok_X5_readAmount) (hd := [7, 14, 62, 80, 102, 123, 128, 140]) 400 _ _ _ _ _ _ ?_
          simp (disch := omega) only [wp, stp, List.mem_cons, List.not_mem_nil, Nat.reduceEqDiff, or_false, or_self, false_or, or_true, true_or, Nat.reduceAdd, ↓reduceIte, List.getElem?_cons_zero, List.getElem?_cons_succ, nthV, List.set_cons_zero, List.set_cons_succ, noL, popA, catS, Value.category, List.length_cons, List.length_nil, Nat.reduceLT, Nat.reduceLeDiff, true_and, and_true, one0, zer1, imp_t, imp_f, ofN_nI, sdead, f20, f21, not_true_eq_false, upC_self, upC_ne, upC_upC, retC, fitC, isRefT, Option.toList_some, Option.toList_none, List.cons_append, List.nil_append, Nat.lt_add_one, Nat.zero_lt_succ, Nat.le_refl, Nat.add_zero, Nat.zero_add, Nat.one_ne_zero, Nat.zero_ne_one, Nat.lt_irrefl, List.length_set, fa_X5_readAmount, hi, hd, hQ, mr_X5_readAmount, rM_0, rM_1, rM_2, rM_3, rM_4, ru_0, ru_1, ru_2, ru_3, ru_4, rO_len, rg_0, rg_1, rg_2, rg_3, rg_4, rg_5, rg_6, rg_7, rg_8, rg_9, rg_10, rs_0, rs_1, rs_5, rs_6, rs_8, rs_9, rs_10]
          obtain ⟨t1, t2⟩ := hsg2.cong rst
          obtain ⟨o1, o2⟩ := seg.one rsv (show a' < 14 by omega) rv
          obtain ⟨y1, y2⟩ := t1.join o1
          refine h128 k3 (c2 + 1) j3 n13 n23 a3 _ I' st' ⟨by omega, e2⟩ hj3 (by omega) hpe3 ⟨⟨?_, r6, r8⟩, ⟨e2, by omega⟩, ?_⟩ (hI2.trans rI) ?_ (fun i hi' => by rw [rst i (by omega)]; exact hst2 i hi') y1 (by omega) (fun F R => ?_)
          · rw [rI 5 (by omega) (by omega) (by omega)]; exact hP2.1.1
          · rw [r10]; exact aeU_01 hP2.2.2
          · rw [r10, hae2, aeU_or]
            refine aeU_c ?_
            rw [evR.join (a := k) (b := k1) (c := k3) (by omega) (by omega), evR.join (a := k1) (b := k1 + 1) (c := k3) (by omega) (by omega)]
            constructor
            · rintro (q | q)
              · exact Or.inl q
              · exact Or.inr (Or.inr q)
            · rintro (q | q | q)
              · exact Or.inl q
              · exact absurd q (evR.one hnf)
              · exact Or.inr q
          · refine ⟨(W F R).2, ?_, w2 F R⟩
            rw [y2, o2, t2, w1]
            rcases ha' with rfl | rfl
            · show (stV F v, (W F R).2, R.2.2) = _
              rw [rF]; rfl
            · show ((W F R).1 * stV F v, (W F R).2, R.2.2) = _
              rw [rF, w3 rfl]; rfl
      by_cases q42 : K k1 = 42
      · have hkT := hS.lt gk (by omega)
        obtain ⟨m1, rfl⟩ : ∃ m1, n1 = m1 + 1 := ⟨n1 - 1, by omega⟩
        rw [cnt2_42 q42] at hpe
        rw [q42] at ek unit
        refine wp_sound (by rw [hi]; exact ok_X5_readAmount) (hd := [7, 14, 62, 80, 102, 120, 123, 128, 134, 140]) 400 _ _ _ _ _ _ ?_
        simp (disch := omega) only [wp, stp, List.mem_cons, List.not_mem_nil, Nat.reduceEqDiff, or_false, or_self, false_or, or_true, true_or, Nat.reduceAdd, ↓reduceIte, List.getElem?_cons_zero, List.getElem?_cons_succ, nthV, List.set_cons_zero, List.set_cons_succ, noL, popA, catS, Value.category, List.length_cons, List.length_nil, Nat.reduceLT, Nat.reduceLeDiff, true_and, and_true, one0, zer1, imp_t, imp_f, ofN_nI, sdead, f20, f21, not_true_eq_false, upC_self, upC_ne, upC_upC, retC, fitC, isRefT, Option.toList_some, Option.toList_none, List.cons_append, List.nil_append, Nat.lt_add_one, Nat.zero_lt_succ, Nat.le_refl, Nat.add_zero, Nat.zero_add, Nat.one_ne_zero, Nat.zero_ne_one, Nat.lt_irrefl, List.length_set, fa_X5_readAmount, hi, hd, hQ, mr_X5_readAmount, g6, hkk, ek, rM_0, rM_1, rM_2, rM_3, rM_4, ru_0, ru_1, ru_2, ru_3, ru_4, rO_len, rg_0, rg_1, rg_2, rg_3, rg_4, rg_5, rg_6, rg_7, rg_8, rg_9, rg_10, rs_0, rs_1, rs_5, rs_6, rs_8, rs_9, rs_10]
        try simp only [m1f]
        try simp (disch := omega) only [nmod, nI_leI, nI_ltI, nI_eq, nI_clamp, vin_nI, nI_1, fa_lit, nI_add, nI_rm3, nI_rm2, pk_rem, pk_mul, pk_sub, pk_div, nI_eM, nI_Me, nI_pM, nI_pMz, nI_pM0, M1_lt, M1_le, nI_ltM, nI_leM, i8_nI, true_and, and_true, false_implies, true_implies, not_false_eq_true, not_true_eq_false, ne_eq, implies_true, Nat.not_lt_zero, Nat.zero_le, ite_min, max0, Nat.reduceLT, Nat.reduceLeDiff, Nat.reduceEqDiff, Nat.reduceAdd, Nat.reduceMul]
        try simp only [m1u]
        refine ⟨fun h => absurd h (by omega), fun _ => ⟨by omega, by omega, _, t_goOn hG hrp hP1 hT4 hkT, ?_⟩⟩
        rintro v n3 z3 f3 ⟨rfl, rfl, rfl, rfl⟩
        refine wp_sound (by rw [hi]; exact ok_X5_readAmount) (hd := [7, 14, 62, 80, 102, 120, 123, 128, 134, 140]) 400 _ _ _ _ _ _ ?_
        simp (disch := omega) only [wp, stp, List.mem_cons, List.not_mem_nil, Nat.reduceEqDiff, or_false, or_self, false_or, or_true, true_or, Nat.reduceAdd, ↓reduceIte, List.getElem?_cons_zero, List.getElem?_cons_succ, nthV, List.set_cons_zero, List.set_cons_succ, noL, popA, catS, Value.category, List.length_cons, List.length_nil, Nat.reduceLT, Nat.reduceLeDiff, true_and, and_true, one0, zer1, imp_t, imp_f, ofN_nI, sdead, f20, f21, not_true_eq_false, upC_self, upC_ne, upC_upC, retC, fitC, isRefT, Option.toList_some, Option.toList_none, List.cons_append, List.nil_append, Nat.lt_add_one, Nat.zero_lt_succ, Nat.le_refl, Nat.add_zero, Nat.zero_add, Nat.one_ne_zero, Nat.zero_ne_one, Nat.lt_irrefl, List.length_set, fa_X5_readAmount, hi, hd, hQ, mr_X5_readAmount, rM_0, rM_1, rM_2, rM_3, rM_4, ru_0, ru_1, ru_2, ru_3, ru_4, rO_len, rg_0, rg_1, rg_2, rg_3, rg_4, rg_5, rg_6, rg_7, rg_8, rg_9, rg_10, rs_0, rs_1, rs_5, rs_6, rs_8, rs_9, rs_10]
        try simp only [m1f]
        try simp (disch := omega) only [nmod, nI_leI, nI_ltI, nI_eq, nI_clamp, vin_nI, nI_1, fa_lit, nI_add, nI_rm3, nI_rm2, pk_rem, pk_mul, pk_sub, pk_div, nI_eM, nI_Me, nI_pM, nI_pMz, nI_pM0, M1_lt, M1_le, nI_ltM, nI_leM, i8_nI, true_and, and_true, false_implies, true_implies, not_false_eq_true, not_true_eq_false, ne_eq, implies_true, Nat.not_lt_zero, Nat.zero_le, ite_min, max0, Nat.reduceLT, Nat.reduceLeDiff, Nat.reduceEqDiff, Nat.reduceAdd, Nat.reduceMul]
        try simp only [m1u]
        refine unit 1 m1 n2 j a (upd I1 6 (nI (k1 + 1))) st1 c1 hkT (by omega) (Or.inr rfl) hj (by omega) ⟨⟨g5, rfl, g8⟩, ⟨by omega, gc⟩, g10⟩ (hI1.trans (fun j a1 a2 a3 => by rw [upd_ap, if_neg a1])) hae hst hsg (by omega) ?_ hpe
        refine ⟨fun F R => ((rS st1 F c c1 R).1, (rS st1 F c c1 R).2.1), fun F R => ?_, fun F R => ?_, fun _ F R => ?_⟩
        · obtain ⟨s', e1, e2⟩ := hbe F R
          dsimp only
          rw [e1]
        · obtain ⟨s', e1, e2⟩ := hbe F R
          dsimp only
          rw [e1]; exact e2
        · obtain ⟨s', e1, e2⟩ := hbe F R
          dsimp only
          rw [e1]
      · by_cases q47 : K k1 = 47
        · have hkT := hS.lt gk (by omega)
          obtain ⟨m1, rfl⟩ : ∃ m1, n1 = m1 + 1 := ⟨n1 - 1, by omega⟩
          rw [cnt2_47 q47] at hpe
          rw [q47] at ek h128
          refine wp_sound (by rw [hi]; exact ok_X5_readAmount) (hd := [7, 14, 62, 80, 102, 120, 123, 128, 134, 140]) 400 _ _ _ _ _ _ ?_
          simp (disch := omega) only [wp, stp, List.mem_cons, List.not_mem_nil, Nat.reduceEqDiff, or_false, or_self, false_or, or_true, true_or, Nat.reduceAdd, ↓reduceIte, List.getElem?_cons_zero, List.getElem?_cons_succ, nthV, List.set_cons_zero, List.set_cons_succ, noL, popA, catS, Value.category, List.length_cons, List.length_nil, Nat.reduceLT, Nat.reduceLeDiff, true_and, and_true, one0, zer1, imp_t, imp_f, ofN_nI, sdead, f20, f21, not_true_eq_false, upC_self, upC_ne, upC_upC, retC, fitC, isRefT, Option.toList_some, Option.toList_none, List.cons_append, List.nil_append, Nat.lt_add_one, Nat.zero_lt_succ, Nat.le_refl, Nat.add_zero, Nat.zero_add, Nat.one_ne_zero, Nat.zero_ne_one, Nat.lt_irrefl, List.length_set, fa_X5_readAmount, hi, hd, hQ, mr_X5_readAmount, g6, hkk, ek, rM_0, rM_1, rM_2, rM_3, rM_4, ru_0, ru_1, ru_2, ru_3, ru_4, rO_len, rg_0, rg_1, rg_2, rg_3, rg_4, rg_5, rg_6, rg_7, rg_8, rg_9, rg_10, rs_0, rs_1, rs_5, rs_6, rs_8, rs_9, rs_10]
          try simp only [m1f]
          try simp (disch := omega) only [nmod, nI_leI, nI_ltI, nI_eq, nI_clamp, vin_nI, nI_1, fa_lit, nI_add, nI_rm3, nI_rm2, pk_rem, pk_mul, pk_sub, pk_div, nI_eM, nI_Me, nI_pM, nI_pMz, nI_pM0, M1_lt, M1_le, nI_ltM, nI_leM, i8_nI, true_and, and_true, false_implies, true_implies, not_false_eq_true, not_true_eq_false, ne_eq, implies_true, Nat.not_lt_zero, Nat.zero_le, ite_min, max0, Nat.reduceLT, Nat.reduceLeDiff, Nat.reduceEqDiff, Nat.reduceAdd, Nat.reduceMul]
          try simp only [m1u]
          refine ⟨fun h => absurd h (by omega), fun _ => ⟨by omega, by omega, _, t_goOn hG hrp hP1 hT4 hkT, ?_⟩⟩
          rintro v n3 z3 f3 ⟨rfl, rfl, rfl, rfl⟩
          have hP2 : PSt T (upd I1 6 (nI (k1 + 1))) (k1 + 1) c1 := ⟨⟨g5, rfl, g8⟩, ⟨by omega, gc⟩, g10⟩
          have hI2 : SmI I (upd I1 6 (nI (k1 + 1))) := hI1.trans (fun j a1 a2 a3 => by rw [upd_ap, if_neg a1])
          refine wp_sound (by rw [hi]; exact ok_X5_readAmount) (hd := [7, 14, 62, 80, 102, 120, 123, 128, 134, 140]) 400 _ _ _ _ _ _ ?_
          simp (disch := omega) only [wp, stp, List.mem_cons, List.not_mem_nil, Nat.reduceEqDiff, or_false, or_self, false_or, or_true, true_or, Nat.reduceAdd, ↓reduceIte, List.getElem?_cons_zero, List.getElem?_cons_succ, nthV, List.set_cons_zero, List.set_cons_succ, noL, popA, catS, Value.category, List.length_cons, List.length_nil, Nat.reduceLT, Nat.reduceLeDiff, true_and, and_true, one0, zer1, imp_t, imp_f, ofN_nI, sdead, f20, f21, not_true_eq_false, upC_self, upC_ne, upC_upC, retC, fitC, isRefT, Option.toList_some, Option.toList_none, List.cons_append, List.nil_append, Nat.lt_add_one, Nat.zero_lt_succ, Nat.le_refl, Nat.add_zero, Nat.zero_add, Nat.one_ne_zero, Nat.zero_ne_one, Nat.lt_irrefl, List.length_set, fa_X5_readAmount, hi, hd, hQ, mr_X5_readAmount, rM_0, rM_1, rM_2, rM_3, rM_4, ru_0, ru_1, ru_2, ru_3, ru_4, rO_len, rg_0, rg_1, rg_2, rg_3, rg_4, rg_5, rg_6, rg_7, rg_8, rg_9, rg_10, rs_0, rs_1, rs_5, rs_6, rs_8, rs_9, rs_10]
          try simp only [m1f]
          try simp (disch := omega) only [nmod, nI_leI, nI_ltI, nI_eq, nI_clamp, vin_nI, nI_1, fa_lit, nI_add, nI_rm3, nI_rm2, pk_rem, pk_mul, pk_sub, pk_div, nI_eM, nI_Me, nI_pM, nI_pMz, nI_pM0, M1_lt, M1_le, nI_ltM, nI_leM, i8_nI, true_and, and_true, false_implies, true_implies, not_false_eq_true, not_true_eq_false, ne_eq, implies_true, Nat.not_lt_zero, Nat.zero_le, ite_min, max0, Nat.reduceLT, Nat.reduceLeDiff, Nat.reduceEqDiff, Nat.reduceAdd, Nat.reduceMul]
          try simp only [m1u]
          refine ⟨by omega, _, t_readPart hG (by omega) hrp hT hP2 (by have := hsg.1; omega), ?_⟩
          intro v n4 z4 f4 hr
          cases hu : pPa K U (k1 + 1) with
          | inl e =>
            rw [hu] at hr hpe
            obtain ⟨⟨rfl, rfl⟩, rfl, I', st', c', rfl, ⟨r0, r1⟩, r8, rc⟩ := hr
            rw [hpe] at hQ
            refine wp_sound (by rw [hi]; exact ok_X5_readAmount) (hd := [7, 14, 62, 80, 102, 123, 128, 140]) 400 _ _ _ _ _ _ ?_
            simp (disch := omega) only [wp, stp, List.mem_cons, List.not_mem_nil, Nat.reduceEqDiff, or_false, or_self, false_or, or_true, true_or, Nat.reduceAdd, ↓reduceIte, List.getElem?_cons_zero, List.getElem?_cons_succ, nthV, List.set_cons_zero, List.set_cons_succ, noL, popA, catS, Value.category, List.length_cons, List.length_nil, Nat.reduceLT, Nat.reduceLeDiff, true_and, and_true, one0, zer1, imp_t, imp_f, ofN_nI, sdead, f20, f21, not_true_eq_false, upC_self, upC_ne, upC_upC, retC, fitC, isRefT, Option.toList_some, Option.toList_none, List.cons_append, List.nil_append, Nat.lt_add_one, Nat.zero_lt_succ, Nat.le_refl, Nat.add_zero, Nat.zero_add, Nat.one_ne_zero, Nat.zero_ne_one, Nat.lt_irrefl, List.length_set, fa_X5_readAmount, hi, hd, hQ, mr_X5_readAmount, rM_0, rM_1, rM_2, rM_3, rM_4, ru_0, ru_1, ru_2, ru_3, ru_4, rO_len, rg_0, rg_1, rg_2, rg_3, rg_4, rg_5, rg_6, rg_7, rg_8, rg_9, rg_10, rs_0, rs_1, rs_5, rs_6, rs_8, rs_9, rs_10]
            intro _
            obtain ⟨why, jj⟩ := e
            exact RdP.err r0 r1 r8 rc
          | inr q =>
            obtain ⟨k3, dd⟩ := q
            have ek3 : k3 = k1 + 1 + 1 ∧ k1 + 1 < T := by
              unfold pPa at hu
              split at hu
              · next q2 =>
                split at hu
                · cases hu
                · cases hu; exact ⟨rfl, hS.lt (by omega) (by rw [q2]; omega)⟩
              · cases hu
            rw [hu] at hr hpe
            obtain ⟨⟨rfl, rfl⟩, rfl, I', st', c', rfl, rI, ⟨r6, r8, r10⟩, rst, rc', ⟨rd1, rd2⟩, rsv⟩ := hr
            subst rc'
            have hpe : pE K U k = cnt2 K U m1 n2 k3 j a (fun F => u F / nI dd) := hpe
            refine wp_sound (by rw [hi]; exact ok_X5_readAmount) (hd := [7, 14, 62, 80, 102, 123, 128, 140]) 400 _ _ _ _ _ _ ?_
            simp (disch := omega) only [wp, stp, List.mem_cons, List.not_mem_nil, Nat.reduceEqDiff, or_false, or_self, false_or, or_true, true_or, Nat.reduceAdd, ↓reduceIte, List.getElem?_cons_zero, List.getElem?_cons_succ, nthV, List.set_cons_zero, List.set_cons_succ, noL, popA, catS, Value.category, List.length_cons, List.length_nil, Nat.reduceLT, Nat.reduceLeDiff, true_and, and_true, one0, zer1, imp_t, imp_f, ofN_nI, sdead, f20, f21, not_true_eq_false, upC_self, upC_ne, upC_upC, retC, fitC, isRefT, Option.toList_some, Option.toList_none, List.cons_append, List.nil_append, Nat.lt_add_one, Nat.zero_lt_succ, Nat.le_refl, Nat.add_zero, Nat.zero_add, Nat.one_ne_zero, Nat.zero_ne_one, Nat.lt_irrefl, List.length_set, fa_X5_readAmount, hi, hd, hQ, mr_X5_readAmount, rM_0, rM_1, rM_2, rM_3, rM_4, ru_0, ru_1, ru_2, ru_3, ru_4, rO_len, rg_0, rg_1, rg_2, rg_3, rg_4, rg_5, rg_6, rg_7, rg_8, rg_9, rg_10, rs_0, rs_1, rs_5, rs_6, rs_8, rs_9, rs_10]
            obtain ⟨y1, y2⟩ := app st' 2 dd rst rsv (by omega) (by omega)
            refine h128 k3 (c1 + 1) j m1 n2 a _ I' st' (by omega) hj (by omega) hpe ⟨⟨?_, r6, r8⟩, ⟨by omega, by omega⟩, ?_⟩ (hI2.trans rI) ?_ (fun i hi' => by rw [rst i (by have := hsg.1; omega)]; exact hst i hi') y1 (by omega) (fun F R => ?_)
            · rw [rI 5 (by omega) (by omega) (by omega)]; exact g5
            · rw [r10]; exact aeU_01 g10
            · rw [r10, show upd I1 6 (nI (k1 + 1)) 10 = I1 10 from rfl, hae, aeU_or]
              refine aeU_c ?_
              rw [evR.join (a := k) (b := k1) (c := k3) (by omega) (by omega), evR.join (a := k1) (b := k1 + 1) (c := k3) (by omega) (by omega)]
              constructor
              · rintro (q | q)
                · exact Or.inl q
                · exact Or.inr (Or.inr q)
              · rintro (q | q | q)
                · exact Or.inl q
                · exact absurd q (evR.one (by omega))
                · exact Or.inr q
            · obtain ⟨s', e1, e2⟩ := hbe F R
              refine ⟨s', ?_, e2⟩
              rw [y2, e1]
              have hv : stV F dd = nI dd := by unfold stV; rw [if_neg (by omega)]
              show ((if stV F dd = 0 then 0 else u F / stV F dd), s', R.2.2) = _
              rw [hv, if_neg (by rw [nI_e0 (by omega)]; exact rd2)]
        · have plus : ∀ s j3, (s = 43 ∧ j3 = 4 ∨ s = 45 ∧ j3 = 5) → K k1 = s → V G X 14 [.ref rp, .int (nI j), .int (nI i), u3] [] n z (rM f0 rp I1 kd pl vl st1) := by
            intro s j3 hs q4
            have hkT := hS.lt gk (by omega)
            obtain ⟨m2, rfl⟩ : ∃ m2, n2 = m2 + 1 := ⟨n2 - 1, by omega⟩
            have hpe2 : pE K U k = match pUn K U (k1 + 1) with | .inl e => .inl e | .inr (k3, u2) => cnt2 K U 400 m2 k3 j3 (jnE j a u) u2 := by
              rcases hs with ⟨rfl, rfl⟩ | ⟨rfl, rfl⟩
              · rw [cnt2_43 q4] at hpe; exact hpe
              · rw [cnt2_45 q4] at hpe; exact hpe
            have hlt := hsg.1
            have u120 := unit 0 400 m2 j3 (jnE j a u)
            rw [q4] at ek u120
            have key : V G X 62 [.ref rp, .int (nI j), .int (nI i), .int (nI s)] [] n z (rM f0 rp (upd I1 6 (nI (k1 + 1))) kd pl vl st1) := by
              have fin : ∀ I2 st2, I2 = upd (upd I1 6 (nI (k1 + 1))) 8 (nI (c1 + 1)) → st2 = upd st1 c1 (nI (65536 * j + 0)) → V G X 120 [.ref rp, .int (nI j3), .int (nI i), .int (nI s)] [.int (nI 0), .ref rp] n z (rM f0 rp I2 kd pl vl st2) := by
                rintro I2 st2 rfl rfl
                obtain ⟨s1, s2⟩ := app (upd st1 c1 (nI (65536 * j + 0))) j 0 (fun i hi' => upd_lt hi') upd_self (by omega) (by omega)
                refine u120 _ _ (c1 + 1) hkT (by omega) (Or.inl rfl) (by omega) (by omega) ⟨⟨g5, rfl, rfl⟩, ⟨by omega, by omega⟩, g10⟩ (hI1.trans (fun j a1 a2 a3 => by rw [upd_ap, if_neg a2, upd_ap, if_neg a1])) hae (fun i hi' => by rw [upd_lt (by omega)]; exact hst i hi') s1 (by omega) ⟨fun F R => ((rS (upd st1 c1 (nI (65536 * j + 0))) F c (c1 + 1) R).1, (rS (upd st1 c1 (nI (65536 * j + 0))) F c (c1 + 1) R).2.1), fun F R => ?_, fun F R => Or.inr ?_, fun h => by omega⟩ hpe2
                · obtain ⟨s', e1, e2⟩ := hbe F R
                  dsimp only
                  rw [s2, e1]
                  rcases hj with rfl | rfl | rfl <;> rfl
                · obtain ⟨s', e1, e2⟩ := hbe F R
                  dsimp only
                  rw [s2, e1]
                  rcases hj with rfl | rfl | rfl
                  · rfl
                  · rcases e2 with e2 | e2
                    · omega
                    · rw [e2]; rfl
                  · rcases e2 with e2 | e2
                    · omega
                    · rw [e2]; rfl
              have g8' : upd I1 6 (nI (k1 + 1)) 8 = nI c1 := g8
              rcases hs with ⟨rfl, rfl⟩ | ⟨rfl, rfl⟩
              · refine wp_sound (by rw [hi]; exact ok_X5_readAmount) (hd := [7, 14, 62, 80, 102, 120, 123, 128, 134, 140]) 400 _ _ _ _ _ _ ?_
                simp (disch := omega) only [wp, stp, List.mem_cons, List.not_mem_nil, Nat.reduceEqDiff, or_false, or_self, false_or, or_true, true_or, Nat.reduceAdd, ↓reduceIte, List.getElem?_cons_zero, List.getElem?_cons_succ, nthV, List.set_cons_zero, List.set_cons_succ, noL, popA, catS, Value.category, List.length_cons, List.length_nil, Nat.reduceLT, Nat.reduceLeDiff, true_and, and_true, one0, zer1, imp_t, imp_f, ofN_nI, sdead, f20, f21, not_true_eq_false, upC_self, upC_ne, upC_upC, retC, fitC, isRefT, Option.toList_some, Option.toList_none, List.cons_append, List.nil_append, Nat.lt_add_one, Nat.zero_lt_succ, Nat.le_refl, Nat.add_zero, Nat.zero_add, Nat.one_ne_zero, Nat.zero_ne_one, Nat.lt_irrefl, List.length_set, fa_X5_readAmount, hi, hd, hQ, mr_X5_readAmount, rM_0, rM_1, rM_2, rM_3, rM_4, ru_0, ru_1, ru_2, ru_3, ru_4, rO_len, rg_0, rg_1, rg_2, rg_3, rg_4, rg_5, rg_6, rg_7, rg_8, rg_9, rg_10, rs_0, rs_1, rs_5, rs_6, rs_8, rs_9, rs_10]
                try simp only [m1f]
                try simp (disch := omega) only [nmod, nI_leI, nI_ltI, nI_eq, nI_clamp, vin_nI, nI_1, fa_lit, nI_add, nI_rm3, nI_rm2, pk_rem, pk_mul, pk_sub, pk_div, nI_eM, nI_Me, nI_pM, nI_pMz, nI_pM0, M1_lt, M1_le, nI_ltM, nI_leM, i8_nI, true_and, and_true, false_implies, true_implies, not_false_eq_true, not_true_eq_false, ne_eq, implies_true, Nat.not_lt_zero, Nat.zero_le, ite_min, max0, Nat.reduceLT, Nat.reduceLeDiff, Nat.reduceEqDiff, Nat.reduceAdd, Nat.reduceMul]
                try simp only [m1u]
                refine ⟨by omega, _, t_addStep hG hrp g8' gc (a := j) (b := 0) (by omega) (by omega), ?_⟩
                rintro v n4 z4 f4 ⟨rfl, ⟨rfl, rfl⟩, h⟩
                rcases h with ⟨-, rfl⟩ | ⟨q, -⟩
                · refine wp_sound (by rw [hi]; exact ok_X5_readAmount) (hd := [7, 14, 62, 80, 102, 120, 123, 128, 134, 140]) 400 _ _ _ _ _ _ ?_
                  simp (disch := omega) only [wp, stp, List.mem_cons, List.not_mem_nil, Nat.reduceEqDiff, or_false, or_self, false_or, or_true, true_or, Nat.reduceAdd, ↓reduceIte, List.getElem?_cons_zero, List.getElem?_cons_succ, nthV, List.set_cons_zero, List.set_cons_succ, noL, popA, catS, Value.category, List.length_cons, List.length_nil, Nat.reduceLT, Nat.reduceLeDiff, true_and, and_true, one0, zer1, imp_t, imp_f, ofN_nI, sdead, f20, f21, not_true_eq_false, upC_self, upC_ne, upC_upC, retC, fitC, isRefT, Option.toList_some, Option.toList_none, List.cons_append, List.nil_append, Nat.lt_add_one, Nat.zero_lt_succ, Nat.le_refl, Nat.add_zero, Nat.zero_add, Nat.one_ne_zero, Nat.zero_ne_one, Nat.lt_irrefl, List.length_set, fa_X5_readAmount, hi, hd, hQ, mr_X5_readAmount, rM_0, rM_1, rM_2, rM_3, rM_4, ru_0, ru_1, ru_2, ru_3, ru_4, rO_len, rg_0, rg_1, rg_2, rg_3, rg_4, rg_5, rg_6, rg_7, rg_8, rg_9, rg_10, rs_0, rs_1, rs_5, rs_6, rs_8, rs_9, rs_10]
                  try simp only [m1f]
                  try simp (disch := omega) only [nmod, nI_leI, nI_ltI, nI_eq, nI_clamp, vin_nI, nI_1, fa_lit, nI_add, nI_rm3, nI_rm2, pk_rem, pk_mul, pk_sub, pk_div, nI_eM, nI_Me, nI_pM, nI_pMz, nI_pM0, M1_lt, M1_le, nI_ltM, nI_leM, i8_nI, true_and, and_true, false_implies, true_implies, not_false_eq_true, not_true_eq_false, ne_eq, implies_true, Nat.not_lt_zero, Nat.zero_le, ite_min, max0, Nat.reduceLT, Nat.reduceLeDiff, Nat.reduceEqDiff, Nat.reduceAdd, Nat.reduceMul]
                  try simp only [m1u]
                  exact fin _ _ rfl rfl
                · omega
              · refine wp_sound (by rw [hi]; exact ok_X5_readAmount) (hd := [7, 14, 62, 80, 102, 120, 123, 128, 134, 140]) 400 _ _ _ _ _ _ ?_
                simp (disch := omega) only [wp, stp, List.mem_cons, List.not_mem_nil, Nat.reduceEqDiff, or_false, or_self, false_or, or_true, true_or, Nat.reduceAdd, ↓reduceIte, List.getElem?_cons_zero, List.getElem?_cons_succ, nthV, List.set_cons_zero, List.set_cons_succ, noL, popA, catS, Value.category, List.length_cons, List.length_nil, Nat.reduceLT, Nat.reduceLeDiff, true_and, and_true, one0, zer1, imp_t, imp_f, ofN_nI, sdead, f20, f21, not_true_eq_false, upC_self, upC_ne, upC_upC, retC, fitC, isRefT, Option.toList_some, Option.toList_none, List.cons_append, List.nil_append, Nat.lt_add_one, Nat.zero_lt_succ, Nat.le_refl, Nat.add_zero, Nat.zero_add, Nat.one_ne_zero, Nat.zero_ne_one, Nat.lt_irrefl, List.length_set, fa_X5_readAmount, hi, hd, hQ, mr_X5_readAmount, rM_0, rM_1, rM_2, rM_3, rM_4, ru_0, ru_1, ru_2, ru_3, ru_4, rO_len, rg_0, rg_1, rg_2, rg_3, rg_4, rg_5, rg_6, rg_7, rg_8, rg_9, rg_10, rs_0, rs_1, rs_5, rs_6, rs_8, rs_9, rs_10]
                try simp only [m1f]
                try simp (disch := omega) only [nmod, nI_leI, nI_ltI, nI_eq, nI_clamp, vin_nI, nI_1, fa_lit, nI_add, nI_rm3, nI_rm2, pk_rem, pk_mul, pk_sub, pk_div, nI_eM, nI_Me, nI_pM, nI_pMz, nI_pM0, M1_lt, M1_le, nI_ltM, nI_leM, i8_nI, true_and, and_true, false_implies, true_implies, not_false_eq_true, not_true_eq_false, ne_eq, implies_true, Nat.not_lt_zero, Nat.zero_le, ite_min, max0, Nat.reduceLT, Nat.reduceLeDiff, Nat.reduceEqDiff, Nat.reduceAdd, Nat.reduceMul]
                try simp only [m1u]
                refine ⟨by omega, _, t_addStep hG hrp g8' gc (a := j) (b := 0) (by omega) (by omega), ?_⟩
                rintro v n4 z4 f4 ⟨rfl, ⟨rfl, rfl⟩, h⟩
                rcases h with ⟨-, rfl⟩ | ⟨q, -⟩
                · refine wp_sound (by rw [hi]; exact ok_X5_readAmount) (hd := [7, 14, 62, 80, 102, 120, 123, 128, 134, 140]) 400 _ _ _ _ _ _ ?_
                  simp (disch := omega) only [wp, stp, List.mem_cons, List.not_mem_nil, Nat.reduceEqDiff, or_false, or_self, false_or, or_true, true_or, Nat.reduceAdd, ↓reduceIte, List.getElem?_cons_zero, List.getElem?_cons_succ, nthV, List.set_cons_zero, List.set_cons_succ, noL, popA, catS, Value.category, List.length_cons, List.length_nil, Nat.reduceLT, Nat.reduceLeDiff, true_and, and_true, one0, zer1, imp_t, imp_f, ofN_nI, sdead, f20, f21, not_true_eq_false, upC_self, upC_ne, upC_upC, retC, fitC, isRefT, Option.toList_some, Option.toList_none, List.cons_append, List.nil_append, Nat.lt_add_one, Nat.zero_lt_succ, Nat.le_refl, Nat.add_zero, Nat.zero_add, Nat.one_ne_zero, Nat.zero_ne_one, Nat.lt_irrefl, List.length_set, fa_X5_readAmount, hi, hd, hQ, mr_X5_readAmount, rM_0, rM_1, rM_2, rM_3, rM_4, ru_0, ru_1, ru_2, ru_3, ru_4, rO_len, rg_0, rg_1, rg_2, rg_3, rg_4, rg_5, rg_6, rg_7, rg_8, rg_9, rg_10, rs_0, rs_1, rs_5, rs_6, rs_8, rs_9, rs_10]
                  try simp only [m1f]
                  try simp (disch := omega) only [nmod, nI_leI, nI_ltI, nI_eq, nI_clamp, vin_nI, nI_1, fa_lit, nI_add, nI_rm3, nI_rm2, pk_rem, pk_mul, pk_sub, pk_div, nI_eM, nI_Me, nI_pM, nI_pMz, nI_pM0, M1_lt, M1_le, nI_ltM, nI_leM, i8_nI, true_and, and_true, false_implies, true_implies, not_false_eq_true, not_true_eq_false, ne_eq, implies_true, Nat.not_lt_zero, Nat.zero_le, ite_min, max0, Nat.reduceLT, Nat.reduceLeDiff, Nat.reduceEqDiff, Nat.reduceAdd, Nat.reduceMul]
                  try simp only [m1u]
                  exact fin _ _ rfl rfl
                · omega
            rcases hs with ⟨rfl, rfl⟩ | ⟨rfl, rfl⟩
            · refine wp_sound (by rw [hi]; exact ok_X5_readAmount) (hd := [7, 14, 62, 80, 102, 120, 123, 128, 134, 140]) 400 _ _ _ _ _ _ ?_
              simp (disch := omega) only [wp, stp, List.mem_cons, List.not_mem_nil, Nat.reduceEqDiff, or_false, or_self, false_or, or_true, true_or, Nat.reduceAdd, ↓reduceIte, List.getElem?_cons_zero, List.getElem?_cons_succ, nthV, List.set_cons_zero, List.set_cons_succ, noL, popA, catS, Value.category, List.length_cons, List.length_nil, Nat.reduceLT, Nat.reduceLeDiff, true_and, and_true, one0, zer1, imp_t, imp_f, ofN_nI, sdead, f20, f21, not_true_eq_false, upC_self, upC_ne, upC_upC, retC, fitC, isRefT, Option.toList_some, Option.toList_none, List.cons_append, List.nil_append, Nat.lt_add_one, Nat.zero_lt_succ, Nat.le_refl, Nat.add_zero, Nat.zero_add, Nat.one_ne_zero, Nat.zero_ne_one, Nat.lt_irrefl, List.length_set, fa_X5_readAmount, hi, hd, hQ, mr_X5_readAmount, g6, hkk, ek, rM_0, rM_1, rM_2, rM_3, rM_4, ru_0, ru_1, ru_2, ru_3, ru_4, rO_len, rg_0, rg_1, rg_2, rg_3, rg_4, rg_5, rg_6, rg_7, rg_8, rg_9, rg_10, rs_0, rs_1, rs_5, rs_6, rs_8, rs_9, rs_10]
              try simp only [m1f]
              try simp (disch := omega) only [nmod, nI_leI, nI_ltI, nI_eq, nI_clamp, vin_nI, nI_1, fa_lit, nI_add, nI_rm3, nI_rm2, pk_rem, pk_mul, pk_sub, pk_div, nI_eM, nI_Me, nI_pM, nI_pMz, nI_pM0, M1_lt, M1_le, nI_ltM, nI_leM, i8_nI, true_and, and_true, false_implies, true_implies, not_false_eq_true, not_true_eq_false, ne_eq, implies_true, Nat.not_lt_zero, Nat.zero_le, ite_min, max0, Nat.reduceLT, Nat.reduceLeDiff, Nat.reduceEqDiff, Nat.reduceAdd, Nat.reduceMul]
              try simp only [m1u]
              refine ⟨fun h => absurd h (by omega), fun _ => ⟨by omega, by omega, _, t_goOn hG hrp hP1 hT4 hkT, ?_⟩⟩
              rintro v n3 z3 f3 ⟨rfl, rfl, rfl, rfl⟩
              exact key
            · refine wp_sound (by rw [hi]; exact ok_X5_readAmount) (hd := [7, 14, 62, 80, 102, 120, 123, 128, 134, 140]) 400 _ _ _ _ _ _ ?_
              simp (disch := omega) only [wp, stp, List.mem_cons, List.not_mem_nil, Nat.reduceEqDiff, or_false, or_self, false_or, or_true, true_or, Nat.reduceAdd, ↓reduceIte, List.getElem?_cons_zero, List.getElem?_cons_succ, nthV, List.set_cons_zero, List.set_cons_succ, noL, popA, catS, Value.category, List.length_cons, List.length_nil, Nat.reduceLT, Nat.reduceLeDiff, true_and, and_true, one0, zer1, imp_t, imp_f, ofN_nI, sdead, f20, f21, not_true_eq_false, upC_self, upC_ne, upC_upC, retC, fitC, isRefT, Option.toList_some, Option.toList_none, List.cons_append, List.nil_append, Nat.lt_add_one, Nat.zero_lt_succ, Nat.le_refl, Nat.add_zero, Nat.zero_add, Nat.one_ne_zero, Nat.zero_ne_one, Nat.lt_irrefl, List.length_set, fa_X5_readAmount, hi, hd, hQ, mr_X5_readAmount, g6, hkk, ek, rM_0, rM_1, rM_2, rM_3, rM_4, ru_0, ru_1, ru_2, ru_3, ru_4, rO_len, rg_0, rg_1, rg_2, rg_3, rg_4, rg_5, rg_6, rg_7, rg_8, rg_9, rg_10, rs_0, rs_1, rs_5, rs_6, rs_8, rs_9, rs_10]
              try simp only [m1f]
              try simp (disch := omega) only [nmod, nI_leI, nI_ltI, nI_eq, nI_clamp, vin_nI, nI_1, fa_lit, nI_add, nI_rm3, nI_rm2, pk_rem, pk_mul, pk_sub, pk_div, nI_eM, nI_Me, nI_pM, nI_pMz, nI_pM0, M1_lt, M1_le, nI_ltM, nI_leM, i8_nI, true_and, and_true, false_implies, true_implies, not_false_eq_true, not_true_eq_false, ne_eq, implies_true, Nat.not_lt_zero, Nat.zero_le, ite_min, max0, Nat.reduceLT, Nat.reduceLeDiff, Nat.reduceEqDiff, Nat.reduceAdd, Nat.reduceMul]
              try simp only [m1u]
              refine ⟨fun h => absurd h (by omega), fun _ => ⟨by omega, by omega, _, t_goOn hG hrp hP1 hT4 hkT, ?_⟩⟩
              rintro v n3 z3 f3 ⟨rfl, rfl, rfl, rfl⟩
              exact key
          by_cases q43 : K k1 = 43
          · exact plus 43 4 (Or.inl ⟨rfl, rfl⟩) q43
          · by_cases q45 : K k1 = 45
            · exact plus 45 5 (Or.inr ⟨rfl, rfl⟩) q45
            · rw [cnt2_end q42 q47 q43 q45] at hpe
              have := h134 hpe
              refine wp_sound (by rw [hi]; exact ok_X5_readAmount) (hd := [7, 14, 62, 80, 102, 120, 123, 128, 134, 140]) 400 _ _ _ _ _ _ ?_
              simp (disch := omega) only [wp, stp, List.mem_cons, List.not_mem_nil, Nat.reduceEqDiff, or_false, or_self, false_or, or_true, true_or, Nat.reduceAdd, ↓reduceIte, List.getElem?_cons_zero, List.getElem?_cons_succ, nthV, List.set_cons_zero, List.set_cons_succ, noL, popA, catS, Value.category, List.length_cons, List.length_nil, Nat.reduceLT, Nat.reduceLeDiff, true_and, and_true, one0, zer1, imp_t, imp_f, ofN_nI, sdead, f20, f21, not_true_eq_false, upC_self, upC_ne, upC_upC, retC, fitC, isRefT, Option.toList_some, Option.toList_none, List.cons_append, List.nil_append, Nat.lt_add_one, Nat.zero_lt_succ, Nat.le_refl, Nat.add_zero, Nat.zero_add, Nat.one_ne_zero, Nat.zero_ne_one, Nat.lt_irrefl, List.length_set, fa_X5_readAmount, hi, hd, hQ, mr_X5_readAmount, g6, hkk, ek, rM_0, rM_1, rM_2, rM_3, rM_4, ru_0, ru_1, ru_2, ru_3, ru_4, rO_len, rg_0, rg_1, rg_2, rg_3, rg_4, rg_5, rg_6, rg_7, rg_8, rg_9, rg_10, rs_0, rs_1, rs_5, rs_6, rs_8, rs_9, rs_10]
              try simp only [m1f]
              try simp (disch := omega) only [nmod, nI_leI, nI_ltI, nI_eq, nI_clamp, vin_nI, nI_1, fa_lit, nI_add, nI_rm3, nI_rm2, pk_rem, pk_mul, pk_sub, pk_div, nI_eM, nI_Me, nI_pM, nI_pMz, nI_pM0, M1_lt, M1_le, nI_ltM, nI_leM, i8_nI, true_and, and_true, false_implies, true_implies, not_false_eq_true, not_true_eq_false, ne_eq, implies_true, Nat.not_lt_zero, Nat.zero_le, ite_min, max0, Nat.reduceLT, Nat.reduceLeDiff, Nat.reduceEqDiff, Nat.reduceAdd, Nat.reduceMul]
              try simp only [m1u]
              exact ⟨fun h => absurd h (by omega), fun _ => ⟨by omega, fun h => absurd h q42, fun _ => ⟨fun h => absurd h q47, fun _ => ⟨fun h => absurd h q43, fun _ => ⟨fun h => absurd h q45, fun _ => this⟩⟩⟩⟩⟩
  refine wp_sound (by rw [hi]; exact ok_X5_readAmount) (hd := [7, 14, 62, 80, 102, 123, 140]) 400 _ _ _ _ _ _ ?_
  simp (disch := omega) only [wp, stp, List.mem_cons, List.not_mem_nil, Nat.reduceEqDiff, or_false, or_self, false_or, or_true, true_or, Nat.reduceAdd, ↓reduceIte, List.getElem?_cons_zero, List.getElem?_cons_succ, nthV, List.set_cons_zero, List.set_cons_succ, noL, popA, catS, Value.category, List.length_cons, List.length_nil, Nat.reduceLT, Nat.reduceLeDiff, true_and, and_true, one0, zer1, imp_t, imp_f, ofN_nI, sdead, f20, f21, not_true_eq_false, upC_self, upC_ne, upC_upC, retC, fitC, isRefT, Option.toList_some, Option.toList_none, List.cons_append, List.nil_append, Nat.lt_add_one, Nat.zero_lt_succ, Nat.le_refl, Nat.add_zero, Nat.zero_add, Nat.one_ne_zero, Nat.zero_ne_one, Nat.lt_irrefl, List.length_set, fa_X5_readAmount, hi, hd, hQ, mr_X5_readAmount, rM_0, rM_1, rM_2, rM_3, rM_4, ru_0, ru_1, ru_2, ru_3, ru_4, rO_len, rg_0, rg_1, rg_2, rg_3, rg_4, rg_5, rg_6, rg_7, rg_8, rg_9, rg_10, rs_0, rs_1, rs_5, rs_6, rs_8, rs_9, rs_10]
  refine ⟨by omega, _, t_readUnit hG (by omega) hrp hT hP (by omega) (a := 0) (by omega), ?_⟩
  intro v n2 z2 f2 hr
  rw [pE_cnt2] at hQ loop
  cases hu : pUn K U k with
  | inl e =>
    rw [hu] at hr hQ
    obtain ⟨⟨rfl, rfl⟩, rfl, I', st', c', rfl, ⟨r0, r1⟩, r8, rc⟩ := hr
    refine wp_sound (by rw [hi]; exact ok_X5_readAmount) (hd := [7, 14, 62, 80, 102, 123, 140]) 400 _ _ _ _ _ _ ?_
    simp (disch := omega) only [wp, stp, List.mem_cons, List.not_mem_nil, Nat.reduceEqDiff, or_false, or_self, false_or, or_true, true_or, Nat.reduceAdd, ↓reduceIte, List.getElem?_cons_zero, List.getElem?_cons_succ, nthV, List.set_cons_zero, List.set_cons_succ, noL, popA, catS, Value.category, List.length_cons, List.length_nil, Nat.reduceLT, Nat.reduceLeDiff, true_and, and_true, one0, zer1, imp_t, imp_f, ofN_nI, sdead, f20, f21, not_true_eq_false, upC_self, upC_ne, upC_upC, retC, fitC, isRefT, Option.toList_some, Option.toList_none, List.cons_append, List.nil_append, Nat.lt_add_one, Nat.zero_lt_succ, Nat.le_refl, Nat.add_zero, Nat.zero_add, Nat.one_ne_zero, Nat.zero_ne_one, Nat.lt_irrefl, List.length_set, fa_X5_readAmount, hi, hd, hQ, mr_X5_readAmount, rM_0, rM_1, rM_2, rM_3, rM_4, ru_0, ru_1, ru_2, ru_3, ru_4, rO_len, rg_0, rg_1, rg_2, rg_3, rg_4, rg_5, rg_6, rg_7, rg_8, rg_9, rg_10, rs_0, rs_1, rs_5, rs_6, rs_8, rs_9, rs_10]
    intro _
    obtain ⟨why, jj⟩ := e
    exact RdP.err r0 r1 r8 rc
  | inr q =>
    obtain ⟨k3, u2⟩ := q
    obtain ⟨⟨e1, e2⟩, -⟩ := pUn_ok hS hk k3 u2 hu
    rw [hu] at hr hQ loop
    obtain ⟨⟨rfl, rfl⟩, rfl, I', st', c', rfl, rI, ⟨r6, r8, r10⟩, rst, rc', v, rv, rsv, rF⟩ := hr
    subst rc'
    have ek3 : k3 = k + 1 := by
      unfold pUn at hu
      split at hu
      · cases hu; rfl
      · split at hu
        · cases hu; rfl
        · cases hu
    obtain ⟨o1, o2⟩ := seg.one rsv (show 0 < 14 by omega) rv
    have L := loop 400 0 k3 (c + 1) 3 400 400 (fun _ => 0) u2 I' st' dead rfl (by omega) (Or.inl rfl) (by omega) rfl ⟨⟨?_, r6, r8⟩, ⟨e2, by omega⟩, ?_⟩ rI r10 rst o1 (by omega) (fun F R => ⟨R.2.1, ?_, Or.inl rfl⟩)
    · refine wp_sound (by rw [hi]; exact ok_X5_readAmount) (hd := [7, 14, 62, 80, 102, 123, 140]) 400 _ _ _ _ _ _ ?_
      simp (disch := omega) only [wp, stp, List.mem_cons, List.not_mem_nil, Nat.reduceEqDiff, or_false, or_self, false_or, or_true, true_or, Nat.reduceAdd, ↓reduceIte, List.getElem?_cons_zero, List.getElem?_cons_succ, nthV, List.set_cons_zero, List.set_cons_succ, noL, popA, catS, Value.category, List.length_cons, List.length_nil, Nat.reduceLT, Nat.reduceLeDiff, true_and, and_true, one0, zer1, imp_t, imp_f, ofN_nI, sdead, f20, f21, not_true_eq_false, upC_self, upC_ne, upC_upC, retC, fitC, isRefT, Option.toList_some, Option.toList_none, List.cons_append, List.nil_append, Nat.lt_add_one, Nat.zero_lt_succ, Nat.le_refl, Nat.add_zero, Nat.zero_add, Nat.one_ne_zero, Nat.zero_ne_one, Nat.lt_irrefl, List.length_set, fa_X5_readAmount, hi, hd, hQ, mr_X5_readAmount, rM_0, rM_1, rM_2, rM_3, rM_4, ru_0, ru_1, ru_2, ru_3, ru_4, rO_len, rg_0, rg_1, rg_2, rg_3, rg_4, rg_5, rg_6, rg_7, rg_8, rg_9, rg_10, rs_0, rs_1, rs_5, rs_6, rs_8, rs_9, rs_10]
      try simp only [m1f]
      try simp (disch := omega) only [nmod, nI_leI, nI_ltI, nI_eq, nI_clamp, vin_nI, nI_1, fa_lit, nI_add, nI_rm3, nI_rm2, pk_rem, pk_mul, pk_sub, pk_div, nI_eM, nI_Me, nI_pM, nI_pMz, nI_pM0, M1_lt, M1_le, nI_ltM, nI_leM, i8_nI, true_and, and_true, false_implies, true_implies, not_false_eq_true, not_true_eq_false, ne_eq, implies_true, Nat.not_lt_zero, Nat.zero_le, ite_min, max0, Nat.reduceLT, Nat.reduceLeDiff, Nat.reduceEqDiff, Nat.reduceAdd, Nat.reduceMul]
      try simp only [m1u]
      exact L
    · rw [rI 5 (by omega) (by omega) (by omega)]; exact h5
    · rw [r10]; exact aeU_01 h10
    · rw [o2]
      show (stV F v, R.2) = _
      rw [rF]
end Rd2
