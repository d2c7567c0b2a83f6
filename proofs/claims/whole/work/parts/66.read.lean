-- Reader: one claim; all of them
set_option maxRecDepth 100000
set_option maxHeartbeats 4000000
section Rd4
variable {G : Gam} {rp T : Nat} {kd pl vl : Nat → Int32} {K U P : Nat → Nat}
/-- an amount, a sign, an amount -/
theorem claim_cmp (hG : Ok G) (hrp : rp + 5 ≤ 1000000) (hT : TkR K U P T kd pl vl) {r o d n z k c : Nat} (hr8 : r ≤ 8) (hd1 : 4 ≤ d) {f0 : Mf} {I st : Nat → Int32} (hP : PSt T I k c) (hck : c + 2 ≤ 2 * k) {X : Fx} (hi : X.i = 71) (hd : X.d = d) {Q : Po} (hQ : X.Q = Q) (hQ2 : Q = RdP (behB (2 * (8 - r) + 2) k c) K U P f0 rp I kd pl vl st k c (pCm K U k) n z) {kk : Int32} {u3 u4 : Value} : V G X 98 [.ref rp, .int (nI o), .int kk, u3, u4] [] n z (rM f0 rp I kd pl vl st) := by
  obtain ⟨⟨h5, h6, h8⟩, ⟨hk, hc⟩, h10⟩ := id hP
  obtain ⟨hS, hR, hB⟩ := id hT
  have hT4 := hS.1
  subst hQ2
  refine wp_sound (by rw [hi]; exact ok_X5_readClaim) (hd := [34, 45, 52, 61, 81, 88, 96, 102, 140, 145, 152, 156, 187]) 400 _ _ _ _ _ _ ?_
  simp (disch := omega) only [wp, stp, List.mem_cons, List.not_mem_nil, Nat.reduceEqDiff, or_false, or_self, false_or, or_true, true_or, Nat.reduceAdd, ↓reduceIte, List.getElem?_cons_zero, List.getElem?_cons_succ, nthV, List.set_cons_zero, List.set_cons_succ, noL, popA, catS, Value.category, List.length_cons, List.length_nil, Nat.reduceLT, Nat.reduceLeDiff, true_and, and_true, one0, zer1, imp_t, imp_f, ofN_nI, sdead, f20, f21, not_true_eq_false, upC_self, upC_ne, upC_upC, retC, fitC, isRefT, Option.toList_some, Option.toList_none, List.cons_append, List.nil_append, Nat.lt_add_one, Nat.zero_lt_succ, Nat.le_refl, Nat.add_zero, Nat.zero_add, Nat.one_ne_zero, Nat.zero_ne_one, Nat.lt_irrefl, List.length_set, fa_X5_readClaim, hi, hd, hQ, mr_X5_readClaim, rM_0, rM_1, rM_2, rM_3, rM_4, ru_0, ru_1, ru_2, ru_3, ru_4, rO_len, rg_0, rg_1, rg_2, rg_3, rg_4, rg_5, rg_6, rg_7, rg_8, rg_9, rg_10, rs_0, rs_1, rs_5, rs_6, rs_8, rs_9, rs_10]
  refine ⟨by omega, _, t_readAmount hG (by omega) hrp hT hP hck, ?_⟩
  intro v n1 z1 f1 hr
  cases hu : pE K U k with
  | inl e =>
    have hp : pCm K U k = .inl e := by unfold pCm; rw [hu]
    rw [hu] at hr
    rw [hp] at hQ
    obtain ⟨⟨rfl, rfl⟩, rfl, I', st', c', rfl, ⟨r0, r1⟩, r8, rc⟩ := hr
    refine wp_sound (by rw [hi]; exact ok_X5_readClaim) (hd := [34, 45, 52, 61, 81, 88, 96, 102, 140, 145, 152, 156, 187]) 400 _ _ _ _ _ _ ?_
    simp (disch := omega) only [wp, stp, List.mem_cons, List.not_mem_nil, Nat.reduceEqDiff, or_false, or_self, false_or, or_true, true_or, Nat.reduceAdd, ↓reduceIte, List.getElem?_cons_zero, List.getElem?_cons_succ, nthV, List.set_cons_zero, List.set_cons_succ, noL, popA, catS, Value.category, List.length_cons, List.length_nil, Nat.reduceLT, Nat.reduceLeDiff, true_and, and_true, one0, zer1, imp_t, imp_f, ofN_nI, sdead, f20, f21, not_true_eq_false, upC_self, upC_ne, upC_upC, retC, fitC, isRefT, Option.toList_some, Option.toList_none, List.cons_append, List.nil_append, Nat.lt_add_one, Nat.zero_lt_succ, Nat.le_refl, Nat.add_zero, Nat.zero_add, Nat.one_ne_zero, Nat.zero_ne_one, Nat.lt_irrefl, List.length_set, fa_X5_readClaim, hi, hd, hQ, mr_X5_readClaim, rM_0, rM_1, rM_2, rM_3, rM_4, ru_0, ru_1, ru_2, ru_3, ru_4, rO_len, rg_0, rg_1, rg_2, rg_3, rg_4, rg_5, rg_6, rg_7, rg_8, rg_9, rg_10, rs_0, rs_1, rs_5, rs_6, rs_8, rs_9, rs_10]
    intro _
    obtain ⟨why, jj⟩ := e
    exact RdP.err r0 r1 r8 rc
  | inr qq =>
    obtain ⟨k1, a⟩ := qq
    obtain ⟨⟨e1, e2⟩, -⟩ := pE_ok hS hk k1 a hu
    rw [hu] at hr
    obtain ⟨⟨rfl, rfl⟩, rfl, I1, st1, c1, rfl, rI, ⟨r6, r8, r10⟩, rst, ⟨rsg, rcb⟩, rrun⟩ := hr
    have rlt := rsg.1
    obtain ⟨ek, ep, ev⟩ := hR k1 e2
    have bk := (hB k1 e2).1
    have hkk : (nI k1).toNatClampNeg = k1 := nI_clamp (by omega)
    have g5 : I1 5 = nI (T + 1) := by rw [rI 5 (by omega) (by omega) (by omega)]; exact h5
    have g10 : I1 10 = 0 ∨ I1 10 = 1 := by rw [r10]; exact aeU_01 h10
    have hP1 : PSt T I1 k1 c1 := ⟨⟨g5, r6, r8⟩, ⟨e2, by omega⟩, g10⟩
    -- the sign is one of three
    have h141 : ∀ s, (s = 60 ∨ s = 61 ∨ s = 62) → K k1 = s → V G X 141 [.ref rp, .int (nI o), .int kk, .int (nI s), u4] [] n1 z1 (rM f0 rp I1 kd pl vl st1) := by
      intro s hs q
      have hkT := hS.lt e2 (by omega)
      obtain ⟨κ, hκ⟩ : ∃ κ, κ = (if s = 60 then 8 else if s = 61 then 9 else 10) := ⟨_, rfl⟩
      refine wp_sound (by rw [hi]; exact ok_X5_readClaim) (hd := [34, 45, 52, 61, 81, 88, 96, 102, 140, 145, 152, 156, 187]) 400 _ _ _ _ _ _ ?_
      simp (disch := omega) only [wp, stp, List.mem_cons, List.not_mem_nil, Nat.reduceEqDiff, or_false, or_self, false_or, or_true, true_or, Nat.reduceAdd, ↓reduceIte, List.getElem?_cons_zero, List.getElem?_cons_succ, nthV, List.set_cons_zero, List.set_cons_succ, noL, popA, catS, Value.category, List.length_cons, List.length_nil, Nat.reduceLT, Nat.reduceLeDiff, true_and, and_true, one0, zer1, imp_t, imp_f, ofN_nI, sdead, f20, f21, not_true_eq_false, upC_self, upC_ne, upC_upC, retC, fitC, isRefT, Option.toList_some, Option.toList_none, List.cons_append, List.nil_append, Nat.lt_add_one, Nat.zero_lt_succ, Nat.le_refl, Nat.add_zero, Nat.zero_add, Nat.one_ne_zero, Nat.zero_ne_one, Nat.lt_irrefl, List.length_set, fa_X5_readClaim, hi, hd, hQ, mr_X5_readClaim, rM_0, rM_1, rM_2, rM_3, rM_4, ru_0, ru_1, ru_2, ru_3, ru_4, rO_len, rg_0, rg_1, rg_2, rg_3, rg_4, rg_5, rg_6, rg_7, rg_8, rg_9, rg_10, rs_0, rs_1, rs_5, rs_6, rs_8, rs_9, rs_10]
      refine ⟨by omega, _, t_goOn hG hrp hP1 hT4 hkT, ?_⟩
      rintro v n2 z2 f2 ⟨rfl, rfl, rfl, rfl⟩
      refine wp_sound (by rw [hi]; exact ok_X5_readClaim) (hd := [34, 45, 52, 61, 81, 88, 96, 102, 140, 145, 152, 156, 187]) 400 _ _ _ _ _ _ ?_
      simp (disch := omega) only [wp, stp, List.mem_cons, List.not_mem_nil, Nat.reduceEqDiff, or_false, or_self, false_or, or_true, true_or, Nat.reduceAdd, ↓reduceIte, List.getElem?_cons_zero, List.getElem?_cons_succ, nthV, List.set_cons_zero, List.set_cons_succ, noL, popA, catS, Value.category, List.length_cons, List.length_nil, Nat.reduceLT, Nat.reduceLeDiff, true_and, and_true, one0, zer1, imp_t, imp_f, ofN_nI, sdead, f20, f21, not_true_eq_false, upC_self, upC_ne, upC_upC, retC, fitC, isRefT, Option.toList_some, Option.toList_none, List.cons_append, List.nil_append, Nat.lt_add_one, Nat.zero_lt_succ, Nat.le_refl, Nat.add_zero, Nat.zero_add, Nat.one_ne_zero, Nat.zero_ne_one, Nat.lt_irrefl, List.length_set, fa_X5_readClaim, hi, hd, hQ, mr_X5_readClaim, rM_0, rM_1, rM_2, rM_3, rM_4, ru_0, ru_1, ru_2, ru_3, ru_4, rO_len, rg_0, rg_1, rg_2, rg_3, rg_4, rg_5, rg_6, rg_7, rg_8, rg_9, rg_10, rs_0, rs_1, rs_5, rs_6, rs_8, rs_9, rs_10]
      have g8 : upd I1 6 (nI (k1 + 1)) 8 = nI c1 := r8
      refine ⟨by omega, _, t_addStep hG hrp g8 (by omega) (a := 7) (b := 0) (by omega) (by omega), ?_⟩
      rintro v n3 z3 f3 ⟨rfl, ⟨rfl, rfl⟩, h⟩
      rcases h with ⟨-, rfl⟩ | ⟨qq, -⟩
      · have hP2 : PSt T (upd (upd I1 6 (nI (k1 + 1))) 8 (nI (c1 + 1))) (k1 + 1) (c1 + 1) := ⟨⟨g5, rfl, rfl⟩, ⟨by omega, by omega⟩, g10⟩
        have hI2 : SmI I (upd (upd I1 6 (nI (k1 + 1))) 8 (nI (c1 + 1))) := rI.trans (fun j a1 a2 a3 => by rw [upd_ap, if_neg a2, upd_ap, if_neg a1])
        refine wp_sound (by rw [hi]; exact ok_X5_readClaim) (hd := [34, 45, 52, 61, 81, 88, 96, 102, 140, 145, 152, 156, 187]) 400 _ _ _ _ _ _ ?_
        simp (disch := omega) only [wp, stp, List.mem_cons, List.not_mem_nil, Nat.reduceEqDiff, or_false, or_self, false_or, or_true, true_or, Nat.reduceAdd, ↓reduceIte, List.getElem?_cons_zero, List.getElem?_cons_succ, nthV, List.set_cons_zero, List.set_cons_succ, noL, popA, catS, Value.category, List.length_cons, List.length_nil, Nat.reduceLT, Nat.reduceLeDiff, true_and, and_true, one0, zer1, imp_t, imp_f, ofN_nI, sdead, f20, f21, not_true_eq_false, upC_self, upC_ne, upC_upC, retC, fitC, isRefT, Option.toList_some, Option.toList_none, List.cons_append, List.nil_append, Nat.lt_add_one, Nat.zero_lt_succ, Nat.le_refl, Nat.add_zero, Nat.zero_add, Nat.one_ne_zero, Nat.zero_ne_one, Nat.lt_irrefl, List.length_set, fa_X5_readClaim, hi, hd, hQ, mr_X5_readClaim, rM_0, rM_1, rM_2, rM_3, rM_4, ru_0, ru_1, ru_2, ru_3, ru_4, rO_len, rg_0, rg_1, rg_2, rg_3, rg_4, rg_5, rg_6, rg_7, rg_8, rg_9, rg_10, rs_0, rs_1, rs_5, rs_6, rs_8, rs_9, rs_10]
        refine ⟨by omega, _, t_readAmount hG (by omega) hrp hT hP2 (by omega), ?_⟩
        intro v n4 z4 f4 hr
        have last : ∀ (v : Int32) (Ir st' : Nat → Int32) (c' : Nat), Ir 8 = nI c' → c' ≤ 800 → (v = 0 ∨ v = 1) → (c' < 800 → X.Q (some (.int v)) n4 z4 (rM f0 rp (upd Ir 8 (nI (c' + 1))) kd pl vl (upd st' c' (nI (65536 * κ + 0))))) → (c' = 800 → X.Q (some (.int v)) n4 z4 (rM f0 rp Ir kd pl vl st')) → V G X 156 [.ref rp, .int (nI o), .int kk, .int (nI s), u4] [.int v] n4 z4 (rM f0 rp Ir kd pl vl st') := by
          intro v Ir st' c' q8 qc qv qA qB
          have fin : V G X 183 [.ref rp, .int (nI o), .int kk, .int (nI s), .int v] [.int (nI κ), .ref rp] n4 z4 (rM f0 rp Ir kd pl vl st') := by
            rw [hQ] at qA qB
            refine wp_sound (by rw [hi]; exact ok_X5_readClaim) (hd := [34, 45, 52, 61, 81, 88, 96, 102, 140, 145, 152, 156, 187]) 400 _ _ _ _ _ _ ?_
            simp (disch := omega) only [wp, stp, List.mem_cons, List.not_mem_nil, Nat.reduceEqDiff, or_false, or_self, false_or, or_true, true_or, Nat.reduceAdd, ↓reduceIte, List.getElem?_cons_zero, List.getElem?_cons_succ, nthV, List.set_cons_zero, List.set_cons_succ, noL, popA, catS, Value.category, List.length_cons, List.length_nil, Nat.reduceLT, Nat.reduceLeDiff, true_and, and_true, one0, zer1, imp_t, imp_f, ofN_nI, sdead, f20, f21, not_true_eq_false, upC_self, upC_ne, upC_upC, retC, fitC, isRefT, Option.toList_some, Option.toList_none, List.cons_append, List.nil_append, Nat.lt_add_one, Nat.zero_lt_succ, Nat.le_refl, Nat.add_zero, Nat.zero_add, Nat.one_ne_zero, Nat.zero_ne_one, Nat.lt_irrefl, List.length_set, fa_X5_readClaim, hi, hd, hQ, mr_X5_readClaim, rM_0, rM_1, rM_2, rM_3, rM_4, ru_0, ru_1, ru_2, ru_3, ru_4, rO_len, rg_0, rg_1, rg_2, rg_3, rg_4, rg_5, rg_6, rg_7, rg_8, rg_9, rg_10, rs_0, rs_1, rs_5, rs_6, rs_8, rs_9, rs_10]
            refine ⟨by omega, _, t_addStep hG hrp q8 qc (a := κ) (b := 0) (by rw [hκ]; split <;> (try split) <;> omega) (by omega), ?_⟩
            rintro v' n5 z5 f5 ⟨rfl, ⟨rfl, rfl⟩, h⟩
            rcases h with ⟨hl, rfl⟩ | ⟨hl, rfl⟩
            · refine wp_sound (by rw [hi]; exact ok_X5_readClaim) (hd := [34, 45, 52, 61, 81, 88, 96, 102, 140, 145, 152, 156, 187]) 400 _ _ _ _ _ _ ?_
              simp (disch := omega) only [wp, stp, List.mem_cons, List.not_mem_nil, Nat.reduceEqDiff, or_false, or_self, false_or, or_true, true_or, Nat.reduceAdd, ↓reduceIte, List.getElem?_cons_zero, List.getElem?_cons_succ, nthV, List.set_cons_zero, List.set_cons_succ, noL, popA, catS, Value.category, List.length_cons, List.length_nil, Nat.reduceLT, Nat.reduceLeDiff, true_and, and_true, one0, zer1, imp_t, imp_f, ofN_nI, sdead, f20, f21, not_true_eq_false, upC_self, upC_ne, upC_upC, retC, fitC, isRefT, Option.toList_some, Option.toList_none, List.cons_append, List.nil_append, Nat.lt_add_one, Nat.zero_lt_succ, Nat.le_refl, Nat.add_zero, Nat.zero_add, Nat.one_ne_zero, Nat.zero_ne_one, Nat.lt_irrefl, List.length_set, fa_X5_readClaim, hi, hd, hQ, mr_X5_readClaim, rM_0, rM_1, rM_2, rM_3, rM_4, ru_0, ru_1, ru_2, ru_3, ru_4, rO_len, rg_0, rg_1, rg_2, rg_3, rg_4, rg_5, rg_6, rg_7, rg_8, rg_9, rg_10, rs_0, rs_1, rs_5, rs_6, rs_8, rs_9, rs_10]
              exact ⟨qv, qA hl⟩
            · refine wp_sound (by rw [hi]; exact ok_X5_readClaim) (hd := [34, 45, 52, 61, 81, 88, 96, 102, 140, 145, 152, 156, 187]) 400 _ _ _ _ _ _ ?_
              simp (disch := omega) only [wp, stp, List.mem_cons, List.not_mem_nil, Nat.reduceEqDiff, or_false, or_self, false_or, or_true, true_or, Nat.reduceAdd, ↓reduceIte, List.getElem?_cons_zero, List.getElem?_cons_succ, nthV, List.set_cons_zero, List.set_cons_succ, noL, popA, catS, Value.category, List.length_cons, List.length_nil, Nat.reduceLT, Nat.reduceLeDiff, true_and, and_true, one0, zer1, imp_t, imp_f, ofN_nI, sdead, f20, f21, not_true_eq_false, upC_self, upC_ne, upC_upC, retC, fitC, isRefT, Option.toList_some, Option.toList_none, List.cons_append, List.nil_append, Nat.lt_add_one, Nat.zero_lt_succ, Nat.le_refl, Nat.add_zero, Nat.zero_add, Nat.one_ne_zero, Nat.zero_ne_one, Nat.lt_irrefl, List.length_set, fa_X5_readClaim, hi, hd, hQ, mr_X5_readClaim, rM_0, rM_1, rM_2, rM_3, rM_4, ru_0, ru_1, ru_2, ru_3, ru_4, rO_len, rg_0, rg_1, rg_2, rg_3, rg_4, rg_5, rg_6, rg_7, rg_8, rg_9, rg_10, rs_0, rs_1, rs_5, rs_6, rs_8, rs_9, rs_10]
              exact ⟨qv, qB hl⟩
          rcases hs with rfl | rfl | rfl
          · rw [show κ = 8 from hκ] at fin
            refine wp_sound (by rw [hi]; exact ok_X5_readClaim) (hd := [34, 45, 52, 61, 81, 88, 96, 102, 140, 145, 152, 156, 183, 187]) 400 _ _ _ _ _ _ ?_
            simp (disch := omega) only [wp, stp, List.mem_cons, List.not_mem_nil, Nat.reduceEqDiff, or_false, or_self, false_or, or_true, true_or, Nat.reduceAdd, ↓reduceIte, List.getElem?_cons_zero, List.getElem?_cons_succ, nthV, List.set_cons_zero, List.set_cons_succ, noL, popA, catS, Value.category, List.length_cons, List.length_nil, Nat.reduceLT, Nat.reduceLeDiff, true_and, and_true, one0, zer1, imp_t, imp_f, ofN_nI, sdead, f20, f21, not_true_eq_false, upC_self, upC_ne, upC_upC, retC, fitC, isRefT, Option.toList_some, Option.toList_none, List.cons_append, List.nil_append, Nat.lt_add_one, Nat.zero_lt_succ, Nat.le_refl, Nat.add_zero, Nat.zero_add, Nat.one_ne_zero, Nat.zero_ne_one, Nat.lt_irrefl, List.length_set, fa_X5_readClaim, hi, hd, hQ, mr_X5_readClaim, rM_0, rM_1, rM_2, rM_3, rM_4, ru_0, ru_1, ru_2, ru_3, ru_4, rO_len, rg_0, rg_1, rg_2, rg_3, rg_4, rg_5, rg_6, rg_7, rg_8, rg_9, rg_10, rs_0, rs_1, rs_5, rs_6, rs_8, rs_9, rs_10]
            try simp only [m1f]
            try simp (disch := omega) only [nmod, nI_leI, nI_ltI, nI_eq, nI_clamp, vin_nI, nI_1, fa_lit, nI_add, nI_rm3, nI_rm2, pk_rem, pk_mul, pk_sub, pk_div, nI_eM, nI_Me, nI_pM, nI_pMz, nI_pM0, M1_lt, M1_le, nI_ltM, nI_leM, i8_nI, true_and, and_true, false_implies, true_implies, not_false_eq_true, not_true_eq_false, ne_eq, implies_true, Nat.not_lt_zero, Nat.zero_le, ite_min, max0, Nat.reduceLT, Nat.reduceLeDiff, Nat.reduceEqDiff, Nat.reduceAdd, Nat.reduceMul]
            try simp only [m1u]
            exact fin
          · rw [show κ = 9 from hκ] at fin
            refine wp_sound (by rw [hi]; exact ok_X5_readClaim) (hd := [34, 45, 52, 61, 81, 88, 96, 102, 140, 145, 152, 156, 183, 187]) 400 _ _ _ _ _ _ ?_
            simp (disch := omega) only [wp, stp, List.mem_cons, List.not_mem_nil, Nat.reduceEqDiff, or_false, or_self, false_or, or_true, true_or, Nat.reduceAdd, ↓reduceIte, List.getElem?_cons_zero, List.getElem?_cons_succ, nthV, List.set_cons_zero, List.set_cons_succ, noL, popA, catS, Value.category, List.length_cons, List.length_nil, Nat.reduceLT, Nat.reduceLeDiff, true_and, and_true, one0, zer1, imp_t, imp_f, ofN_nI, sdead, f20, f21, not_true_eq_false, upC_self, upC_ne, upC_upC, retC, fitC, isRefT, Option.toList_some, Option.toList_none, List.cons_append, List.nil_append, Nat.lt_add_one, Nat.zero_lt_succ, Nat.le_refl, Nat.add_zero, Nat.zero_add, Nat.one_ne_zero, Nat.zero_ne_one, Nat.lt_irrefl, List.length_set, fa_X5_readClaim, hi, hd, hQ, mr_X5_readClaim, rM_0, rM_1, rM_2, rM_3, rM_4, ru_0, ru_1, ru_2, ru_3, ru_4, rO_len, rg_0, rg_1, rg_2, rg_3, rg_4, rg_5, rg_6, rg_7, rg_8, rg_9, rg_10, rs_0, rs_1, rs_5, rs_6, rs_8, rs_9, rs_10]
            try simp only [m1f]
            try simp (disch := omega) only [nmod, nI_leI, nI_ltI, nI_eq, nI_clamp, vin_nI, nI_1, fa_lit, nI_add, nI_rm3, nI_rm2, pk_rem, pk_mul, pk_sub, pk_div, nI_eM, nI_Me, nI_pM, nI_pMz, nI_pM0, M1_lt, M1_le, nI_ltM, nI_leM, i8_nI, true_and, and_true, false_implies, true_implies, not_false_eq_true, not_true_eq_false, ne_eq, implies_true, Nat.not_lt_zero, Nat.zero_le, ite_min, max0, Nat.reduceLT, Nat.reduceLeDiff, Nat.reduceEqDiff, Nat.reduceAdd, Nat.reduceMul]
            try simp only [m1u]
            exact fin
          · rw [show κ = 10 from hκ] at fin
            refine wp_sound (by rw [hi]; exact ok_X5_readClaim) (hd := [34, 45, 52, 61, 81, 88, 96, 102, 140, 145, 152, 156, 183, 187]) 400 _ _ _ _ _ _ ?_
            simp (disch := omega) only [wp, stp, List.mem_cons, List.not_mem_nil, Nat.reduceEqDiff, or_false, or_self, false_or, or_true, true_or, Nat.reduceAdd, ↓reduceIte, List.getElem?_cons_zero, List.getElem?_cons_succ, nthV, List.set_cons_zero, List.set_cons_succ, noL, popA, catS, Value.category, List.length_cons, List.length_nil, Nat.reduceLT, Nat.reduceLeDiff, true_and, and_true, one0, zer1, imp_t, imp_f, ofN_nI, sdead, f20, f21, not_true_eq_false, upC_self, upC_ne, upC_upC, retC, fitC, isRefT, Option.toList_some, Option.toList_none, List.cons_append, List.nil_append, Nat.lt_add_one, Nat.zero_lt_succ, Nat.le_refl, Nat.add_zero, Nat.zero_add, Nat.one_ne_zero, Nat.zero_ne_one, Nat.lt_irrefl, List.length_set, fa_X5_readClaim, hi, hd, hQ, mr_X5_readClaim, rM_0, rM_1, rM_2, rM_3, rM_4, ru_0, ru_1, ru_2, ru_3, ru_4, rO_len, rg_0, rg_1, rg_2, rg_3, rg_4, rg_5, rg_6, rg_7, rg_8, rg_9, rg_10, rs_0, rs_1, rs_5, rs_6, rs_8, rs_9, rs_10]
            try simp only [m1f]
            try simp (disch := omega) only [nmod, nI_leI, nI_ltI, nI_eq, nI_clamp, vin_nI, nI_1, fa_lit, nI_add, nI_rm3, nI_rm2, pk_rem, pk_mul, pk_sub, pk_div, nI_eM, nI_Me, nI_pM, nI_pMz, nI_pM0, M1_lt, M1_le, nI_ltM, nI_leM, i8_nI, true_and, and_true, false_implies, true_implies, not_false_eq_true, not_true_eq_false, ne_eq, implies_true, Nat.not_lt_zero, Nat.zero_le, ite_min, max0, Nat.reduceLT, Nat.reduceLeDiff, Nat.reduceEqDiff, Nat.reduceAdd, Nat.reduceMul]
            try simp only [m1u]
            exact fin
        cases hu2 : pE K U (k1 + 1) with
        | inl e =>
          have hp : pCm K U k = .inl e := by unfold pCm; rw [hu]; dsimp only; rw [if_pos (by omega), hu2]
          rw [hu2] at hr
          rw [hp] at hQ
          obtain ⟨⟨rfl, rfl⟩, rfl, I', st', c', rfl, ⟨r0, r1⟩, r8', rc⟩ := hr
          obtain ⟨why, jj⟩ := e
          refine last 0 I' st' c' r8' rc (Or.inl rfl) (fun hl => ?_) (fun hl => ?_)
          · rw [hQ]; exact RdP.err r0 r1 rfl (by omega)
          · rw [hQ]; exact RdP.err r0 r1 r8' rc
        | inr qq =>
          obtain ⟨k2, b⟩ := qq
          obtain ⟨⟨e3, e4⟩, -⟩ := pE_ok hS (show k1 + 1 ≤ T by omega) k2 b hu2
          have hp : pCm K U k = .inr (k2, fun F => cmB (K k1) (a F) (b F)) := by unfold pCm; rw [hu]; dsimp only; rw [if_pos (by omega), hu2]
          rw [hu2] at hr
          rw [hp] at hQ
          obtain ⟨⟨rfl, rfl⟩, rfl, I', st', c', rfl, rI', ⟨r6', r8', r10'⟩, rst', ⟨rsg', rcb'⟩, rrun'⟩ := hr
          have rlt' := rsg'.1
          refine last 1 I' st' c' r8' (by omega) (Or.inr rfl) (fun hl => ?_) (fun hl => ?_)
          · rw [hQ]
            refine ⟨⟨rfl, rfl⟩, rfl, _, _, c' + 1, rfl, (hI2.trans rI').trans (fun j a1 a2 a3 => by rw [upd_ap, if_neg a2]), ⟨r6', rfl, ?_⟩, fun i hi' => ?_, ⟨?_, ?_⟩, ?_⟩
            · exact ae_join (ae_step r10 (I2 := upd (upd I1 6 (nI (k1 + 1))) 8 (nI (c1 + 1))) rfl (by omega) (by omega)) r10' (by omega) (by omega)
            · rw [upd_lt (by omega), rst' i (by omega), upd_lt (by omega)]; exact rst i hi'
            all_goals
              obtain ⟨s1, s2⟩ := rsg.cong (st' := upd st1 c1 (nI (65536 * 7 + 0))) (fun i hi' => upd_lt hi')
              obtain ⟨o1, o2⟩ := seg.one (st := upd st1 c1 (nI (65536 * 7 + 0))) (c := c1) upd_self (show 7 < 14 by omega) (show 0 < 65536 by omega)
              obtain ⟨j1, j2⟩ := s1.join o1
              obtain ⟨m1, m2⟩ := j1.cong rst'
              obtain ⟨y1, y2⟩ := m1.join rsg'
              obtain ⟨w1, w2⟩ := y1.cong (st' := upd st' c' (nI (65536 * κ + 0))) (fun i hi' => upd_lt hi')
              obtain ⟨v1, v2⟩ := seg.one (st := upd st' c' (nI (65536 * κ + 0))) (c := c') upd_self (show κ < 14 by rw [hκ]; split <;> (try split) <;> omega) (show 0 < 65536 by omega)
              obtain ⟨x1, x2⟩ := w1.join v1
            · exact x1
            · omega
            · intro F R t ht htl
              have hp : t < 2 ^ 18 := Nat.lt_of_lt_of_le htl (Nat.pow_le_pow_right (by omega) (by omega))
              obtain ⟨pr1, p1⟩ := rrun F R
              obtain ⟨pr2, p2⟩ := rrun' F (pr1, a F, a F, R.2.2.2)
              refine ⟨pr2, b F, a F, ?_⟩
              rw [x2, v2, w2, y2, m2, j2, o2, s2, p1]
              show rg1 F κ 0 (rS st' F (c1 + 1) c' (pr1, a F, a F, R.2.2.2)) = _
              rw [p2, hκ]
              obtain ⟨x5, x6, x7, x8, x9⟩ := R
              have ht : x9 = Int64.ofNat t := ht
              subst ht
              rcases hs with rfl | rfl | rfl
              · show (pr2, b F, a F, x8, (Int64.ofNat t <<< ((1 : Int32).toInt64 &&& 63)) ||| (bI (a F < b F)).toInt64) = _
                rw [j_cmp (by omega), q]
                show _ = (pr2, b F, a F, x8, Int64.ofNat (2 * t + b2n (decide (a F < b F))))
                simp only [b2n, decide_eq_true_eq]
              · show (pr2, b F, a F, x8, (Int64.ofNat t <<< ((1 : Int32).toInt64 &&& 63)) ||| (bI (a F = b F)).toInt64) = _
                rw [j_cmp (by omega), q]
                show _ = (pr2, b F, a F, x8, Int64.ofNat (2 * t + b2n (decide (a F = b F))))
                simp only [b2n, decide_eq_true_eq]
              · show (pr2, b F, a F, x8, (Int64.ofNat t <<< ((1 : Int32).toInt64 &&& 63)) ||| (bI (b F < a F)).toInt64) = _
                rw [j_cmp (by omega), q]
                show _ = (pr2, b F, a F, x8, Int64.ofNat (2 * t + b2n (decide (b F < a F))))
                simp only [b2n, decide_eq_true_eq]
          · omega
      · omega
    have hin : vp_in (nI k1) 401 := (vin_nI (by omega)).mpr (by omega)
    by_cases q60 : K k1 = 60
    · have L := h141 60 (by omega) q60
      rw [q60] at ek
      refine wp_sound (by rw [hi]; exact ok_X5_readClaim) (hd := [34, 45, 52, 61, 81, 88, 96, 102, 140, 141, 145, 152, 156, 187]) 400 _ _ _ _ _ _ ?_
      simp (disch := omega) only [wp, stp, List.mem_cons, List.not_mem_nil, Nat.reduceEqDiff, or_false, or_self, false_or, or_true, true_or, Nat.reduceAdd, ↓reduceIte, List.getElem?_cons_zero, List.getElem?_cons_succ, nthV, List.set_cons_zero, List.set_cons_succ, noL, popA, catS, Value.category, List.length_cons, List.length_nil, Nat.reduceLT, Nat.reduceLeDiff, true_and, and_true, one0, zer1, imp_t, imp_f, ofN_nI, sdead, f20, f21, not_true_eq_false, upC_self, upC_ne, upC_upC, retC, fitC, isRefT, Option.toList_some, Option.toList_none, List.cons_append, List.nil_append, Nat.lt_add_one, Nat.zero_lt_succ, Nat.le_refl, Nat.add_zero, Nat.zero_add, Nat.one_ne_zero, Nat.zero_ne_one, Nat.lt_irrefl, List.length_set, fa_X5_readClaim, hi, hd, hQ, mr_X5_readClaim, r6, hkk, ek, rM_0, rM_1, rM_2, rM_3, rM_4, ru_0, ru_1, ru_2, ru_3, ru_4, rO_len, rg_0, rg_1, rg_2, rg_3, rg_4, rg_5, rg_6, rg_7, rg_8, rg_9, rg_10, rs_0, rs_1, rs_5, rs_6, rs_8, rs_9, rs_10]
      try simp only [m1f]
      try simp (disch := omega) only [nmod, nI_leI, nI_ltI, nI_eq, nI_clamp, vin_nI, nI_1, fa_lit, nI_add, nI_rm3, nI_rm2, pk_rem, pk_mul, pk_sub, pk_div, nI_eM, nI_Me, nI_pM, nI_pMz, nI_pM0, M1_lt, M1_le, nI_ltM, nI_leM, i8_nI, true_and, and_true, false_implies, true_implies, not_false_eq_true, not_true_eq_false, ne_eq, implies_true, Nat.not_lt_zero, Nat.zero_le, ite_min, max0, Nat.reduceLT, Nat.reduceLeDiff, Nat.reduceEqDiff, Nat.reduceAdd, Nat.reduceMul]
      try simp only [m1u]
      exact ⟨by omega, L⟩
    · by_cases q61 : K k1 = 61
      · have L := h141 61 (by omega) q61
        rw [q61] at ek
        refine wp_sound (by rw [hi]; exact ok_X5_readClaim) (hd := [34, 45, 52, 61, 81, 88, 96, 102, 140, 141, 145, 152, 156, 187]) 400 _ _ _ _ _ _ ?_
        simp (disch := omega) only [wp, stp, List.mem_cons, List.not_mem_nil, Nat.reduceEqDiff, or_false, or_self, false_or, or_true, true_or, Nat.reduceAdd, ↓reduceIte, List.getElem?_cons_zero, List.getElem?_cons_succ, nthV, List.set_cons_zero, List.set_cons_succ, noL, popA, catS, Value.category, List.length_cons, List.length_nil, Nat.reduceLT, Nat.reduceLeDiff, true_and, and_true, one0, zer1, imp_t, imp_f, ofN_nI, sdead, f20, f21, not_true_eq_false, upC_self, upC_ne, upC_upC, retC, fitC, isRefT, Option.toList_some, Option.toList_none, List.cons_append, List.nil_append, Nat.lt_add_one, Nat.zero_lt_succ, Nat.le_refl, Nat.add_zero, Nat.zero_add, Nat.one_ne_zero, Nat.zero_ne_one, Nat.lt_irrefl, List.length_set, fa_X5_readClaim, hi, hd, hQ, mr_X5_readClaim, r6, hkk, ek, rM_0, rM_1, rM_2, rM_3, rM_4, ru_0, ru_1, ru_2, ru_3, ru_4, rO_len, rg_0, rg_1, rg_2, rg_3, rg_4, rg_5, rg_6, rg_7, rg_8, rg_9, rg_10, rs_0, rs_1, rs_5, rs_6, rs_8, rs_9, rs_10]
        try simp only [m1f]
        try simp (disch := omega) only [nmod, nI_leI, nI_ltI, nI_eq, nI_clamp, vin_nI, nI_1, fa_lit, nI_add, nI_rm3, nI_rm2, pk_rem, pk_mul, pk_sub, pk_div, nI_eM, nI_Me, nI_pM, nI_pMz, nI_pM0, M1_lt, M1_le, nI_ltM, nI_leM, i8_nI, true_and, and_true, false_implies, true_implies, not_false_eq_true, not_true_eq_false, ne_eq, implies_true, Nat.not_lt_zero, Nat.zero_le, ite_min, max0, Nat.reduceLT, Nat.reduceLeDiff, Nat.reduceEqDiff, Nat.reduceAdd, Nat.reduceMul]
        try simp only [m1u]
        exact ⟨by omega, L⟩
      · by_cases q62 : K k1 = 62
        · have L := h141 62 (by omega) q62
          rw [q62] at ek
          refine wp_sound (by rw [hi]; exact ok_X5_readClaim) (hd := [34, 45, 52, 61, 81, 88, 96, 102, 140, 141, 145, 152, 156, 187]) 400 _ _ _ _ _ _ ?_
          simp (disch := omega) only [wp, stp, List.mem_cons, List.not_mem_nil, Nat.reduceEqDiff, or_false, or_self, false_or, or_true, true_or, Nat.reduceAdd, ↓reduceIte, List.getElem?_cons_zero, List.getElem?_cons_succ, nthV, List.set_cons_zero, List.set_cons_succ, noL, popA, catS, Value.category, List.length_cons, List.length_nil, Nat.reduceLT, Nat.reduceLeDiff, true_and, and_true, one0, zer1, imp_t, imp_f, ofN_nI, sdead, f20, f21, not_true_eq_false, upC_self, upC_ne, upC_upC, retC, fitC, isRefT, Option.toList_some, Option.toList_none, List.cons_append, List.nil_append, Nat.lt_add_one, Nat.zero_lt_succ, Nat.le_refl, Nat.add_zero, Nat.zero_add, Nat.one_ne_zero, Nat.zero_ne_one, Nat.lt_irrefl, List.length_set, fa_X5_readClaim, hi, hd, hQ, mr_X5_readClaim, r6, hkk, ek, rM_0, rM_1, rM_2, rM_3, rM_4, ru_0, ru_1, ru_2, ru_3, ru_4, rO_len, rg_0, rg_1, rg_2, rg_3, rg_4, rg_5, rg_6, rg_7, rg_8, rg_9, rg_10, rs_0, rs_1, rs_5, rs_6, rs_8, rs_9, rs_10]
          try simp only [m1f]
          try simp (disch := omega) only [nmod, nI_leI, nI_ltI, nI_eq, nI_clamp, vin_nI, nI_1, fa_lit, nI_add, nI_rm3, nI_rm2, pk_rem, pk_mul, pk_sub, pk_div, nI_eM, nI_Me, nI_pM, nI_pMz, nI_pM0, M1_lt, M1_le, nI_ltM, nI_leM, i8_nI, true_and, and_true, false_implies, true_implies, not_false_eq_true, not_true_eq_false, ne_eq, implies_true, Nat.not_lt_zero, Nat.zero_le, ite_min, max0, Nat.reduceLT, Nat.reduceLeDiff, Nat.reduceEqDiff, Nat.reduceAdd, Nat.reduceMul]
          try simp only [m1u]
          exact ⟨by omega, L⟩
        · have hp : pCm K U k = .inl (1, k1) := by unfold pCm; rw [hu]; dsimp only; rw [if_neg (by omega)]
          rw [hp] at hQ
          refine wp_sound (by rw [hi]; exact ok_X5_readClaim) (hd := [34, 45, 52, 61, 81, 88, 96, 102, 140, 141, 145, 152, 156, 187]) 400 _ _ _ _ _ _ ?_
          simp (disch := omega) only [wp, stp, List.mem_cons, List.not_mem_nil, Nat.reduceEqDiff, or_false, or_self, false_or, or_true, true_or, Nat.reduceAdd, ↓reduceIte, List.getElem?_cons_zero, List.getElem?_cons_succ, nthV, List.set_cons_zero, List.set_cons_succ, noL, popA, catS, Value.category, List.length_cons, List.length_nil, Nat.reduceLT, Nat.reduceLeDiff, true_and, and_true, one0, zer1, imp_t, imp_f, ofN_nI, sdead, f20, f21, not_true_eq_false, upC_self, upC_ne, upC_upC, retC, fitC, isRefT, Option.toList_some, Option.toList_none, List.cons_append, List.nil_append, Nat.lt_add_one, Nat.zero_lt_succ, Nat.le_refl, Nat.add_zero, Nat.zero_add, Nat.one_ne_zero, Nat.zero_ne_one, Nat.lt_irrefl, List.length_set, fa_X5_readClaim, hi, hd, hQ, mr_X5_readClaim, r6, hkk, ek, rM_0, rM_1, rM_2, rM_3, rM_4, ru_0, ru_1, ru_2, ru_3, ru_4, rO_len, rg_0, rg_1, rg_2, rg_3, rg_4, rg_5, rg_6, rg_7, rg_8, rg_9, rg_10, rs_0, rs_1, rs_5, rs_6, rs_8, rs_9, rs_10]
          try simp only [m1f]
          try simp (disch := omega) only [nmod, nI_leI, nI_ltI, nI_eq, nI_clamp, vin_nI, nI_1, fa_lit, nI_add, nI_rm3, nI_rm2, pk_rem, pk_mul, pk_sub, pk_div, nI_eM, nI_Me, nI_pM, nI_pMz, nI_pM0, M1_lt, M1_le, nI_ltM, nI_leM, i8_nI, true_and, and_true, false_implies, true_implies, not_false_eq_true, not_true_eq_false, ne_eq, implies_true, Nat.not_lt_zero, Nat.zero_le, ite_min, max0, Nat.reduceLT, Nat.reduceLeDiff, Nat.reduceEqDiff, Nat.reduceAdd, Nat.reduceMul]
          try simp only [m1u]
          refine ⟨by omega, fun h => absurd h q60, fun _ => ⟨fun h => absurd h q61, fun _ => ⟨fun h => absurd h q62, fun _ => ⟨by omega, _, t_refuse hG hrp r6 (by omega) 1, ?_⟩⟩⟩⟩
          rintro v n2 z2 f2 ⟨rfl, rfl, rfl, rfl⟩
          refine wp_sound (by rw [hi]; exact ok_X5_readClaim) (hd := [34, 45, 52, 61, 81, 88, 96, 102, 140, 145, 152, 156, 187]) 400 _ _ _ _ _ _ ?_
          simp (disch := omega) only [wp, stp, List.mem_cons, List.not_mem_nil, Nat.reduceEqDiff, or_false, or_self, false_or, or_true, true_or, Nat.reduceAdd, ↓reduceIte, List.getElem?_cons_zero, List.getElem?_cons_succ, nthV, List.set_cons_zero, List.set_cons_succ, noL, popA, catS, Value.category, List.length_cons, List.length_nil, Nat.reduceLT, Nat.reduceLeDiff, true_and, and_true, one0, zer1, imp_t, imp_f, ofN_nI, sdead, f20, f21, not_true_eq_false, upC_self, upC_ne, upC_upC, retC, fitC, isRefT, Option.toList_some, Option.toList_none, List.cons_append, List.nil_append, Nat.lt_add_one, Nat.zero_lt_succ, Nat.le_refl, Nat.add_zero, Nat.zero_add, Nat.one_ne_zero, Nat.zero_ne_one, Nat.lt_irrefl, List.length_set, fa_X5_readClaim, hi, hd, hQ, mr_X5_readClaim, rM_0, rM_1, rM_2, rM_3, rM_4, ru_0, ru_1, ru_2, ru_3, ru_4, rO_len, rg_0, rg_1, rg_2, rg_3, rg_4, rg_5, rg_6, rg_7, rg_8, rg_9, rg_10, rs_0, rs_1, rs_5, rs_6, rs_8, rs_9, rs_10]
          exact RdP.err rfl ep r8 (by omega)
end Rd4
