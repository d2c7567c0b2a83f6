-- Reader: one claim; all of them
set_option maxRecDepth 100000
set_option maxHeartbeats 4000000
section Rd4
variable {G : Gam} {rp T : Nat} {kd pl vl : Nat → Int32} {K U P : Nat → Nat}
/-- an amount, a sign, an amount -/
theorem claim_cmp (hG : Ok G) (hrp : rp + 5 ≤ 1000000) (hT : TkR K U P T kd pl vl) {r o d n z k c : Nat} (hr8 : r ≤ 8) (hd1 : 4 ≤ d) {f0 : Mf} {I st : Nat → Int32} (hP : PSt T I k c) (hck : c + 2 ≤ 2 * k) {X : Fx} (hi : X.i = 71) (hd : X.d = d) {Q : Po} (hQ : X.Q = Q) (hQ2 : Q = RdP (behB (2 * (8 - r) + 2) k c) K U P f0 rp I kd pl vl st k c (pCm K U k) n z) {u2 u3 u4 : Value} : V G X 98 [.ref rp, .int (nI o), u2, u3, u4] [] n z (rM f0 rp I kd pl vl st) := by
  obtain ⟨⟨h5, h6, h8⟩, ⟨hk, hc⟩, h10⟩ := id hP
  obtain ⟨hS, hR, hB⟩ := id hT
  have hT4 := hS.1
  subst hQ2
  refine wp_sound (by rw [hi]; exact ok_X5_readClaim) (hd := [34, 45, 52, 61, 81, 88, 96, 102, 140, 145, 152, 156, 187]) 400 _ _ _ _ _ _ ?_
  simp (disch := omega) only [wp, stp, List.mem_cons, List.not_mem_nil, Nat.reduceEqDiff, or_false, or_self, false_or, or_true, true_or, Nat.reduceAdd, ↓reduceIte, List.getElem?_cons_zero, List.getElem?_cons_succ, nthV, List.set_cons_zero, List.set_cons_succ, noL, popA, catS, Value.category, List.length_cons, List.length_nil, Nat.reduceLT, Nat.reduceLeDiff, true_and, and_true, one0, zer1, imp_t, imp_f, ofN_nI, sdead, f20, f21, not_true_eq_false, upC_self, upC_ne, upC_upC, retC, fitC, isRefT, Option.toList_some, Option.toList_none, List.cons_append, List.nil_append, Nat.lt_add_one, Nat.zero_lt_succ, Nat.le_refl, Nat.add_zero, Nat.zero_add, Nat.one_ne_zero, Nat.zero_ne_one, Nat.lt_irrefl, List.length_set, fa_X5_readClaim, hi, hd, hQ, mr_X5_readClaim, rM_0, rM_1, rM_2, rM_3, rM_4, ru_0, ru_1, ru_2, ru_3, ru_4, rO_len, rg_0, rg_1, rg_2, rg_3, rg_4, rg_5, rg_6, rg_7, rg_8, rg_9, rg_10, rs_0, rs_1, rs_5, rs_6, rs_8, rs_9, rs_10]
  refine ⟨by omega, _, t_readAmount hG (by omega) hrp hT hP hck, ?_⟩
  intro v n1 z1 f1 hr
  have hdef : pCm K U k = (match pE K U k with | .inl e => .inl e | .inr (k', a) => if K k' = 60 ∨ K k' = 61 ∨ K k' = 62 then (match pE K U (k' + 1) with | .inl e => .inl e | .inr (k2, b) => .inr (k2, fun F => cmB (K k') (a F) (b F))) else .inl (1, k')) := rfl
  rw [hdef] at hQ
  cases hu : pE K U k with
  | inl e =>
    rw [hu] at hr hQ
    obtain ⟨⟨rfl, rfl⟩, rfl, I', st', c', rfl, ⟨r0, r1⟩, r8, rc⟩ := hr
    refine wp_sound (by rw [hi]; exact ok_X5_readClaim) (hd := [34, 45, 52, 61, 81, 88, 96, 102, 140, 145, 152, 156, 187]) 400 _ _ _ _ _ _ ?_
    simp (disch := omega) only [wp, stp, List.mem_cons, List.not_mem_nil, Nat.reduceEqDiff, or_false, or_self, false_or, or_true, true_or, Nat.reduceAdd, ↓reduceIte, List.getElem?_cons_zero, List.getElem?_cons_succ, nthV, List.set_cons_zero, List.set_cons_succ, noL, popA, catS, Value.category, List.length_cons, List.length_nil, Nat.reduceLT, Nat.reduceLeDiff, true_and, and_true, one0, zer1, imp_t, imp_f, ofN_nI, sdead, f20, f21, not_true_eq_false, upC_self, upC_ne, upC_upC, retC, fitC, isRefT, Option.toList_some, Option.toList_none, List.cons_append, List.nil_append, Nat.lt_add_one, Nat.zero_lt_succ, Nat.le_refl, Nat.add_zero, Nat.zero_add, Nat.one_ne_zero, Nat.zero_ne_one, Nat.lt_irrefl, List.length_set, fa_X5_readClaim, hi, hd, hQ, mr_X5_readClaim, rM_0, rM_1, rM_2, rM_3, rM_4, ru_0, ru_1, ru_2, ru_3, ru_4, rO_len, rg_0, rg_1, rg_2, rg_3, rg_4, rg_5, rg_6, rg_7, rg_8, rg_9, rg_10, rs_0, rs_1, rs_5, rs_6, rs_8, rs_9, rs_10]
    intro _
    obtain ⟨why, jj⟩ := e
    exact RdP.err r0 r1 r8 rc
  | inr qq =>
    obtain ⟨k1, a⟩ := qq
    obtain ⟨⟨e1, e2⟩, -⟩ := pE_ok hS hk k1 a hu
    rw [hu] at hr hQ
    obtain ⟨⟨rfl, rfl⟩, rfl, I1, st1, c1, rfl, rI, ⟨r6, r8, r10⟩, rst, ⟨rsg, rcb⟩, rrun⟩ := hr
    have rlt := rsg.1
    obtain ⟨ek, ep, ev⟩ := hR k1 e2
    have bk := (hB k1 e2).1
    have hkk : (nI k1).toNatClampNeg = k1 := nI_clamp (by omega)
    have g5 : I1 5 = nI (T + 1) := by rw [rI 5 (by omega) (by omega) (by omega)]; exact h5
    have g10 : I1 10 = 0 ∨ I1 10 = 1 := by rw [r10]; exact aeU_01 h10
    have hP1 : PSt T I1 k1 c1 := ⟨⟨g5, r6, r8⟩, ⟨e2, by omega⟩, g10⟩
    -- the sign is one of three
    have h141 : ∀ s, (s = 60 ∨ s = 61 ∨ s = 62) → K k1 = s → V G X 141 [.ref rp, .int (nI o), u2, .int (nI s), u4] [] n1 z1 (rM f0 rp I1 kd pl vl st1) := by
      intro s hs q
      have hkT := hS.lt e2 (by omega)
      rw [if_pos (by omega)] at hQ
      refine wp_sound (by rw [hi]; exact ok_X5_readClaim) (hd := [34, 45, 52, 61, 81, 88, 96, 102, 140, 145, 152, 156, 187]) 400 _ _ _ _ _ _ ?_
      simp (disch := omega) only [wp, stp, List.mem_cons, List.not_mem_nil, Nat.reduceEqDiff, or_false, or_self, false_or, or_true, true_or, Nat.reduceAdd, ↓reduceIte, List.getElem?_cons_zero, List.getElem?_cons_succ, nthV, List.set_cons_zero, List.set_cons_succ, noL, popA, catS, Value.category, List.length_cons, List.length_nil, Nat.reduceLT, Nat.reduceLeDiff, true_and, and_true, one0, zer1, imp_t, imp_f, ofN_nI, sdead, f20, f21, not_true_eq_false, upC_self, upC_ne, upC_upC, retC, fitC, isRefT, Option.toList_some, Option.toList_none, List.cons_append, List.nil_append, Nat.lt_add_one, Nat.zero_lt_succ, Nat.le_refl, Nat.add_zero, Nat.zero_add, Nat.one_ne_zero, Nat.zero_ne_one, Nat.lt_irrefl, List.length_set, fa_X5_readClaim, hi, hd, hQ, mr_X5_readClaim, rM_0, rM_1, rM_2, rM_3, rM_4, ru_0, ru_1, ru_2, ru_3, ru_4, rO_len, rg_0, rg_1, rg_2, rg_3, rg_4, rg_5, rg_6, rg_7, rg_8, rg_9, rg_10, rs_0, rs_1, rs_5, rs_6, rs_8, rs_9, rs_10]
      refine ⟨by omega, _, t_goOn hG hrp hP1 hT4 hkT, ?_⟩
      rintro v n2 z2 f2 ⟨rfl, rfl, rfl, rfl⟩
      refine wp_sound (by rw [hi]; exact ok_X5_readClaim) (hd := [34, 45, 52, 61, 81, 88, 96, 102, 140, 145, 152, 156, 187]) 400 _ _ _ _ _ _ ?_
      simp (disch := omega) only [wp, stp, List.mem_cons, List.not_mem_nil, Nat.reduceEqDiff, or_false, or_self, false_or, or_true, true_or, Nat.reduceAdd, ↓reduceIte, List.getElem?_cons_zero, List.getElem?_cons_succ, nthV, List.set_cons_zero, List.set_cons_succ, noL, popA, catS, Value.category, List.length_cons, List.length_nil, Nat.reduceLT, Nat.reduceLeDiff, true_and, and_true, one0, zer1, imp_t, imp_f, ofN_nI, sdead, f20, f21, not_true_eq_false, upC_self, upC_ne, upC_upC, retC, fitC, isRefT, Option.toList_some, Option.toList_none, List.cons_append, List.nil_append, Nat.lt_add_one, Nat.zero_lt_succ, Nat.le_refl, Nat.add_zero, Nat.zero_add, Nat.one_ne_zero, Nat.zero_ne_one, Nat.lt_irrefl, List.length_set, fa_X5_readClaim, hi, hd, hQ, mr_X5_readClaim, rM_0, rM_1, rM_2, rM_3, rM_4, ru_0, ru_1, ru_2, ru_3, ru_4, rO_len, rg_0, rg_1, rg_2, rg_3, rg_4, rg_5, rg_6, rg_7, rg_8, rg_9, rg_10, rs_0, rs_1, rs_5, rs_6, rs_8, rs_9, rs_10]
      have g8 : upd I1 6 (nI (k1 + 1)) 8 = nI c1 := r8
      refine ⟨by omega, _, t_addStep hG hrp g8 (by omega) (a := 7) (b := 0) (by omega) (by omega), ?_⟩
      rintro v n3 z3 f3 ⟨rfl, ⟨rfl, rfl⟩, h⟩
      rcases h with ⟨-, rfl⟩ | ⟨qq, -⟩
      · have hP2 : PSt T (upd (upd I1 6 (nI (k1 + 1))) 8 (nI (c1 + 1))) (k1 + 1) (c1 + 1) := ⟨⟨g5, rfl, rfl⟩, ⟨by omega, by omega⟩, g10⟩
        have hI2 : SmI I (upd (upd I1 6 (nI (k1 + 1))) 8 (nI (c1 + 1))) := rI.trans (fun j a1 a2 a3 => by rw [upd_ap, if_neg a2, upd_ap, if_neg a1])
        refine wp_sound (by rw [hi]; exact ok_X5_readClaim) (hd := [34, 45, 52, 61, 81, 88, 96, 102, 140, 145, 152, 156, 187]) 400 _ _ _ _ _ _ ?_
        simp (disch := omega) only [wp, stp, List.mem_cons, List.not_mem_nil, Nat.reduceEqDiff, or_false, or_self, false_or, or_true, true_or, Nat.reduceAdd, ↓reduceIte, List.getElem?_cons_zero, List.getElem?_cons_succ, nthV, List.set_cons_zero, List.set_cons_succ, noL, popA, catS, Value.category, List.length_cons, List.length_nil, Nat.reduceLT, Nat.reduceLeDiff, true_and, and_true, one0, zer1, imp_t, imp_f, ofN_nI, sdead, f20, f21, not_true_eq_false, upC_self, upC_ne, upC_upC, retC, fitC, isRefT, Option.toList_some, Option.toList_none, List.cons_append, List.nil_append, Nat.lt_add_one, Nat.zero_lt_succ, Nat.le_refl, Nat.add_zero, Nat.zero_add, Nat.one_ne_zero, Nat.zero_ne_one, Nat.lt_irrefl, List.length_set, fa_X5_readClaim, hi, hd, hQ, mr_X5_readClaim, rM_0, rM_1, rM_2, rM_3, rM_4, ru_0, ru_1, ru_2, ru_3, ru_4, rO_len, rg_0, rg_1, rg_2, rg_3, rg_4, rg_5, rg_6, rg_7, rg_8, rg_9, rg_10, rs_0, rs_1, rs_5, rs_6, rs_8, rs_9, rs_10]
        refine ⟨by omega, _, t_readAmount hG (by omega) hrp hT hP2 (by omega), ?_⟩
        intro v n4 z4 f4 hr
        have wr : ∀ x, x = s → (60 : Int32) = nI 60 → True := fun _ _ _ => trivial
        -- the last step
        have last : ∀ (v : Int32) (g : Mf) (Ir st' : Nat → Int32) (c' : Nat), g = rM f0 rp Ir kd pl vl st' → (∀ st2, (st2 = st' ∨ c' < 800 ∧ st2 = upd st' c' (nI (65536 * (if s = 60 then 8 else if s = 61 then 9 else 10) + 0))) → ∀ I2, ((c' = 800 ∧ st2 = st' ∧ I2 = Ir) ∨ (c' < 800 ∧ st2 = upd st' c' (nI (65536 * (if s = 60 then 8 else if s = 61 then 9 else 10) + 0)) ∧ I2 = upd Ir 8 (nI (c' + 1)))) → X.Q (some (.int v)) n4 z4 (rM f0 rp I2 kd pl vl st2)) → Ir 8 = nI c' → c' ≤ 800 → V G X 156 [.ref rp, .int (nI o), u2, .int (nI s), u4] [.int v] n4 z4 g := by
          sorry
        sorry
      · omega
    sorry
end Rd4
